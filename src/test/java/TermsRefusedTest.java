import java.util.function.Consumer;

/** The terms' first lines: numbers, and calls that are refused. */
public final class TermsRefusedTest {
    private static final int BAD = Sentence.BAD, NO = Sentence.NO, FULL = Sentence.FULL, NOTHING = Sentence.NOTHING, INDEX = Sentence.INDEX, NONE = Sentence.NONE;

    public static void main(String[] args) {
        Sentence.says("terms", "All numbers are whole", TermsRefusedTest::greatNumbers);
        Sentence.says("terms", "of several the one that stands first with it", TermsRefusedTest::firstOfSeveral);
        Sentence.says("terms, on the greatest wheel", "and changes nothing", TermsRefusedTest::changesNothing);
        Sentence.says("terms, again and again", "and changes nothing", TermsRefusedTest::changesNothingEver);
        Sentence.says("terms", "NONE: there is none.", TermsRefusedTest::none);
        Sentence.end();
    }

    /** As much as 512 calls can make: turned on as LEFT, taken back as THICK, again and again. */
    private static void greatNumbers() {
        WheelStand x = new WheelStand();
        Sentence.fill(x, 0, 1000);
        Sentence.fill(x, 1, 1000);
        Sentence.fill(x, 2, 1000);
        x.limit(4, 1000000);
        for (int which = 0; which < 4; which++) {
            x.limit(which, 1);
        }
        x.read(0, 0, 9999);
        int cycles = 110;
        for (int i = 0; i < cycles; i++) {
            x.turn(0, 100);
            x.kind(0, 3);
            x.undo();
            x.kind(0, 1);
        }
        Sentence.due(x, 9999 + 300000 * cycles, "reading", 0, 0);
        Sentence.due(x, -100000 * cycles, "reading", 1, 0);
        Sentence.due(x, 500 - 100000 * cycles, "about", 0, 3);
        Sentence.due(x, 9999 + 300000 * cycles / 8, "state", 0);
        Sentence.due(x, 100000 * cycles, "state", 1);
        Sentence.due(x, 1000000000, "state", 3);
        Sentence.due(x, NONE, "next");
        Sentence.due(x, NONE, "fewest", 0);
        Sentence.due(x, 500 - 100000 * cycles, "snap", 0);
    }

    private static void firstOfSeveral() {
        // spoke 7 is gone, table 3 has no places, table 5 is missing
        Sentence.keepsAll(BAD, "kind", 7, 4);
        Sentence.keepsAll(BAD, "enter", 5, 99, 1001);
        Sentence.keepsAll(NOTHING, "enter", 5, 99, 1000);
        Sentence.keepsAll(BAD, "copy", 5, 6, -1);
        Sentence.keepsAll(NOTHING, "copy", 5, 0, -1);
        Sentence.keepsAll(INDEX, "copy", 3, 0, 1);
        Sentence.keepsAll(BAD, "tune", 7, 100001);
        Sentence.keepsAll(BAD, "turn", 7, 101);
        Sentence.keepsAll(BAD, "anew", 0, 4, 0);
        Consumer<WheelStand> full = x -> {
            for (int i = 0; i < 60; i++) {
                x.turn(i % 8, 1);
            }
            x.snap(7);
        };
        Sentence.keepsAll(full, BAD, "turn", 7, 0);
        Sentence.keepsAll(full, NO, "turn", 7, 1);
        Sentence.keepsAll(full, FULL, "turn", 6, 1);
    }

    private static void great(WheelStand x) {
        x.wheel(32);
        x.table(1, 17);
        x.enter(1, 16, 9);
        x.table(4, 0);
        x.read(0, 31, 77);
        x.turn(31, 3);
        x.snap(30);
        x.lace(1, 2, 3, 4);
    }

    private static void changesNothing() {
        Object[][] calls = {{BAD, "wheel", 31}, {BAD, "kind", 32, 1}, {NO, "kind", 30, 1}, {BAD, "table", 1, 18}, {BAD, "table", 6, 17},
            {BAD, "enter", 1, 16, 1001}, {NOTHING, "enter", 0, 0, 1}, {INDEX, "enter", 1, 17, 1}, {INDEX, "enter", 4, 0, 1},
            {BAD, "copy", 1, 6, 1}, {NOTHING, "copy", 1, 0, 1}, {INDEX, "copy", 1, 4, 1}, {BAD, "read", 0, 32, 1}, {BAD, "read", 0, 31, 10000},
            {BAD, "limit", 0, 0}, {BAD, "tune", 32, 1}, {NO, "tune", 30, 1}, {BAD, "turn", 32, 1}, {NO, "turn", 30, 1}, {BAD, "plan", 61},
            {BAD, "snap", 32}, {NO, "snap", 30}, {BAD, "anew", 30, 4, 1}, {NO, "anew", 31, 1, 1}, {BAD, "lace", 201, 2, 3, 4}};
        for (Object[] call : calls) {
            int[] a = new int[call.length - 2];
            for (int i = 0; i < a.length; i++) {
                a[i] = (Integer) call[i + 2];
            }
            Sentence.keepsAll(TermsRefusedTest::great, (Integer) call[0], (String) call[1], a);
        }
    }

    /** Refused calls do not pile up: after 200 of them the stand is as it was, and takes a turn. */
    private static void changesNothingEver() {
        WheelStand x = new WheelStand();
        Sentence.fill(x, 2, 600);
        for (int i = 0; i < 200; i++) {
            Sentence.due(x, NO, "turn", 0, 1);
        }
        Sentence.due(x, 0, "count", 2);
        Sentence.due(x, -100, "turn", 0, -1);
    }

    private static void none() {
        WheelStand x = new WheelStand();
        Sentence.due(x, NONE, "why");
        Sentence.due(x, NONE, "next");
        Sentence.due(x, NONE, "log", 0, 0);
        Sentence.due(x, NONE, "fewest", 1);
        x.read(1, 0, 101);
        Sentence.due(x, NONE, "fewest", 0);
    }
}
