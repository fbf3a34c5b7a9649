/** Counts the answers that are not as due, and ends a test with exit code 1 if there was one. */
final class Check {
    private static int asked = 0;
    private static int wrong = 0;

    private Check() {
    }

    static void due(String call, long got, long want) {
        asked++;
        if (got != want) {
            wrong++;
            System.out.println(call + " answered " + got + ", due is " + want);
        }
    }

    static void holds(String claim, boolean does) {
        asked++;
        if (!does) {
            wrong++;
            System.out.println("does not hold: " + claim);
        }
    }

    static void end() {
        System.out.println(asked + " asked, " + wrong + " wrong");
        if (wrong != 0 || asked == 0) {
            System.exit(1);
        }
    }

    /** A table is there with these places. */
    static void fill(WheelStand x, int table, int... places) {
        due("table", x.table(table, places.length), places.length);
        for (int i = 0; i < places.length; i++) {
            due("enter", x.enter(table, i, places[i]), 0);
        }
    }
}
