import java.util.Arrays;
import java.util.List;
import java.util.function.Consumer;

/** Tests of the document, a sentence each: what is wrong is told with the promise (or part of the terms) and its words. */
final class Sentence {
    static final int BAD = WheelStand.BAD, NO = WheelStand.NO, FULL = WheelStand.FULL, NOTHING = WheelStand.NOTHING, INDEX = WheelStand.INDEX, NONE = WheelStand.NONE;

    private static String now = "no sentence yet";
    private static int sentences = 0;

    private Sentence() {
    }

    static void says(String where, String words, Runnable test) {
        now = where + " \"" + words + "\"";
        sentences++;
        test.run();
    }

    static void end() {
        System.out.print(sentences + " sentences, ");
        Check.end();
    }

    static void due(String call, long got, long want) {
        Check.due(now + ": " + call, got, want);
    }

    /** Asks by name. */
    static void due(WheelStand x, int want, String name, int... arguments) {
        due(name + Arrays.toString(arguments), Calls.ask(x, name, arguments), want);
    }

    /** A stand on which something of every sort has been done; spoke 7 is gone, table 3 has no places, table 5 is missing. */
    static void worked(WheelStand x) {
        fill(x, 0, 40, 10, -3);
        fill(x, 1, 5, -2);
        fill(x, 2, 60, -20, 7, 1, 2);
        fill(x, 3);
        fill(x, 4, 1000, 300);
        x.read(0, 1, 30);
        x.read(0, 6, -41);
        x.read(1, 3, 7);
        for (int which = 0; which < 5; which++) {
            x.limit(which, new int[] {90, 80, 70, 400, 900}[which]);
        }
        x.kind(1, 3);
        x.kind(2, 5);
        x.kind(4, 0);
        x.tune(3, 450);
        x.turn(0, 1);
        x.turn(1, -1);
        x.snap(7);
        x.lace(25, 35, 310, 2);
    }

    static void fill(WheelStand x, int table, int... places) {
        due(x, places.length, "table", table, places.length);
        for (int i = 0; i < places.length; i++) {
            due(x, 0, "enter", table, i, places[i]);
        }
    }

    /** A call that changes nothing, be it refused or not: a stand of which it was asked is as one of which it was not. */
    static void keepsAll(Consumer<WheelStand> work, int want, String name, int... arguments) {
        WheelStand asked = new WheelStand();
        WheelStand twin = new WheelStand();
        work.accept(asked);
        work.accept(twin);
        due(asked, want, name, arguments);
        List<String> is = Observed.of(asked);
        List<String> was = Observed.of(twin);
        for (int i = 0; i < Math.min(is.size(), was.size()); i++) {
            Check.holds(now + ": " + name + Arrays.toString(arguments) + " changes nothing, but " + was.get(i) + " became " + is.get(i),
                is.get(i).equals(was.get(i)));
        }
        Check.holds(now + ": " + name + Arrays.toString(arguments) + " leaves as much to ask", is.size() == was.size());
    }

    static void keepsAll(int want, String name, int... arguments) {
        keepsAll(Sentence::worked, want, name, arguments);
    }

    /** An argument takes least .. most, the others being as given: beyond, and far beyond, the call answers BAD and changes nothing. */
    static void takesOnly(int argument, int least, int most, String name, int... arguments) {
        int[] beyond = {least - 1, most + 1, Integer.MIN_VALUE, Integer.MAX_VALUE};
        for (int v : beyond) {
            int[] wrong = arguments.clone();
            wrong[argument] = v;
            keepsAll(BAD, name, wrong);
        }
        for (int v : new int[] {least, most}) {
            int[] right = arguments.clone();
            right[argument] = v;
            WheelStand x = new WheelStand();
            worked(x);
            notBad(x, name, right);
        }
    }

    /** An argument is a spoke or a place: on each wheel its last one is taken, and the one behind it BAD, whatever wheel was there before. */
    static void takesHoles(int argument, String name, int... arguments) {
        for (int holes : new int[] {8, 16, 32}) {
            for (int before : new int[] {8, 32}) {
                WheelStand x = new WheelStand();
                x.wheel(before);
                x.wheel(holes);
                int[] a = arguments.clone();
                for (int beyond : new int[] {holes, -1}) {
                    a[argument] = beyond;
                    due(x, BAD, name, a);
                }
                a[argument] = holes - 1;
                notBad(x, name, a);
            }
        }
    }

    private static void notBad(WheelStand x, String name, int... arguments) {
        int got = Calls.ask(x, name, arguments);
        Check.holds(now + ": " + name + Arrays.toString(arguments) + " is not BAD", got != BAD);
    }
}
