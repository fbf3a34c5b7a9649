/** The terms' part 1, the wheel: its sentences that name a boundary case. */
public final class TermsWheelTest {
    private static final int BAD = Sentence.BAD, NOTHING = Sentence.NOTHING, INDEX = Sentence.INDEX;
    private static final int SIDE = 0, UP = 1, PULL = 2, OTHER = 3, BREAK = 4, LOAD = 5;

    public static void main(String[] args) {
        Sentence.says("terms 1", "THE WHEEL has N HOLES, 8, 16 or 32 (8 at first), numbered round", TermsWheelTest::holes);
        Sentence.says("terms 1, UP", "BETWEEN holes i, j there are d steps, the less of both ways round, 0 .. N / 2", TermsWheelTest::stepsOfUp);
        Sentence.says("terms 1, SIDE", "BETWEEN holes i, j there are d steps, the less of both ways round, 0 .. N / 2", TermsWheelTest::stepsOfSide);
        Sentence.says("terms 1, PULL, OTHER", "BETWEEN holes i, j there are d steps, the less of both ways round, 0 .. N / 2", TermsWheelTest::stepsOfPulls);
        Sentence.says("terms 1, BREAK", "BETWEEN holes i, j there are d steps, the less of both ways round, 0 .. N / 2", TermsWheelTest::stepsOfBreak);
        Sentence.says("terms 1, LOAD", "BETWEEN holes i, j there are d steps, the less of both ways round, 0 .. N / 2", TermsWheelTest::stepsOfLoad);
        Sentence.says("terms 1", "(All are SPOKES; THICK ones are RIGHT, too; STRAIGHT ones LEFT.)", TermsWheelTest::kindsOfKinds);
        Sentence.says("terms 1", "At first those at even HOLES are LEFT, others RIGHT.", TermsWheelTest::firstKinds);
        Sentence.says("terms 1", "a LEFT one 1, a RIGHT one -1, a SPOKE and one that is GONE 0", TermsWheelTest::leans);
        Sentence.says("terms 1", "ITS FORCE: 1; of a THICK one 2; of one that is GONE 0", TermsWheelTest::forces);
        Sentence.says("terms 1", "rows of up to 17 numbers -1000 .. 1000, by steps", TermsWheelTest::tablesReach);
        Sentence.says("terms 1", "each MISSING at first", TermsWheelTest::missingAtFirst);
        Sentence.says("terms 1", "a place that a row has not", TermsWheelTest::shortRows);
        Sentence.says("terms 1", "(or of a row that is MISSING) counts as 0", TermsWheelTest::missingRows);
        Sentence.says("terms 1", "A QUARTER TURN of SPOKE s (n quarters: n times that)", TermsWheelTest::quarters);
        Sentence.says("terms 1", "the SIDE at place p more by FORCE times how it LEANS times SIDE[d]", TermsWheelTest::sideByKind);
        Sentence.says("terms 1", "UP at p by FORCE times UP[d]", TermsWheelTest::upByKind);
        Sentence.says("terms 1", "the PULL of each SPOKE j that is not GONE", TermsWheelTest::pullsOfGone);
        Sentence.says("terms 1", "by FORCE times PULL[d], if both lean alike, else times OTHER[d]", TermsWheelTest::pullsByKind);
        Sentence.says("terms 1", "(KINDS count as they are as it is turned.)", TermsWheelTest::kindsAsTurned);
        Sentence.end();
    }

    private static void holes() {
        Sentence.due(new WheelStand(), 8, "count", 0);
        for (int holes : new int[] {8, 16, 32}) {
            WheelStand x = new WheelStand();
            x.wheel(holes);
            Sentence.due(x, BAD, "about", -1, 0);
            for (int i = 0; i < holes; i++) {
                Sentence.due(x, 500, "about", i, 3);
                Sentence.due(x, 0, "unbent", 0, i);
            }
            Sentence.due(x, BAD, "about", holes, 0);
            Sentence.due(x, BAD, "unbent", 0, holes);
        }
    }

    /** Walks both ways at once until one of them is there. */
    private static int walk(int holes, int i, int j) {
        int d = 0;
        int on = i, back = i;
        while (on != j && back != j) {
            on = on == holes - 1 ? 0 : on + 1;
            back = back == 0 ? holes - 1 : back - 1;
            d++;
        }
        return d;
    }

    private interface Pair {
        void ask(WheelStand x, int i, int j, int steps);
    }

    /** Tables with another number at each place, wheels of all sizes, from places at the ends and in the middle. */
    private static void allSteps(Pair pair, int... tables) {
        for (int holes : new int[] {8, 16, 32}) {
            for (int i : new int[] {0, 1, holes / 2 - 1, holes / 2, holes - 2, holes - 1}) {
                WheelStand x = new WheelStand();
                x.wheel(32);
                x.wheel(holes);
                for (int table : tables) {
                    x.table(table, 17);
                    for (int d = 0; d < 17; d++) {
                        x.enter(table, d, entry(d));
                    }
                }
                for (int j = 0; j < holes; j++) {
                    pair.ask(x, i, j, walk(holes, i, j));
                }
            }
        }
    }

    private static int entry(int steps) {
        return 10 + 3 * steps;
    }

    private static void onceTurned(WheelStand x, int spoke) {
        if (x.count(2) == 0) {
            x.turn(spoke, 1);
        }
    }

    private static void stepsOfUp() {
        allSteps((x, i, j, d) -> {
            onceTurned(x, i);
            Sentence.due(x, entry(d), "reading", 1, j);
        }, UP);
    }

    private static void stepsOfSide() {
        allSteps((x, i, j, d) -> {
            onceTurned(x, i);
            Sentence.due(x, i % 2 == 0 ? entry(d) : -entry(d), "reading", 0, j);
        }, SIDE);
    }

    private static void stepsOfPulls() {
        allSteps((x, i, j, d) -> {
            onceTurned(x, i);
            Sentence.due(x, 500 + ((i - j) % 2 == 0 ? entry(d) : 0), "about", j, 3);
        }, PULL);
        allSteps((x, i, j, d) -> {
            onceTurned(x, i);
            Sentence.due(x, 500 + ((i - j) % 2 == 0 ? 0 : entry(d)), "about", j, 3);
        }, OTHER);
    }

    private static void stepsOfBreak() {
        allSteps((x, i, j, d) -> {
            if (x.about(i, 0) != 4) {
                x.tune(i, 1000);
                x.snap(i);
            }
            Sentence.due(x, i == j ? 0 : 500 + entry(d), "about", j, 3);
        }, BREAK);
    }

    private static void stepsOfLoad() {
        allSteps((x, i, j, d) -> Sentence.due(x, 500 - entry(d), "loaded", 1000, i, j), LOAD);
    }

    private static void kindsOfKinds() {
        // by rows what it is, by columns SPOKE, LEFT, RIGHT, THICK, GONE, STRAIGHT
        int[][] due = {{1, 0, 0, 0, 0, 0}, {1, 1, 0, 0, 0, 0}, {1, 0, 1, 0, 0, 0}, {1, 0, 1, 1, 0, 0}, {1, 0, 0, 0, 1, 0}, {1, 1, 0, 0, 0, 1}};
        for (int own = 0; own < 6; own++) {
            for (int kind = 0; kind < 6; kind++) {
                Sentence.due(of(own), due[own][kind], "isOf", 0, kind);
            }
        }
    }

    /** A stand whose spoke 0 is of a kind. */
    private static WheelStand of(int kind) {
        WheelStand x = new WheelStand();
        if (kind == 4) {
            x.snap(0);
        } else {
            x.kind(0, kind);
        }
        Sentence.due(x, kind, "about", 0, 0);
        return x;
    }

    private static void firstKinds() {
        for (int holes : new int[] {8, 16, 32}) {
            WheelStand x = new WheelStand();
            x.wheel(holes);
            for (int i = 0; i < holes; i += 2) {
                Sentence.due(x, 1, "about", i, 0);
                Sentence.due(x, 2, "about", i + 1, 0);
            }
        }
        WheelStand fresh = new WheelStand();
        Sentence.due(fresh, 1, "about", 0, 0);
        Sentence.due(fresh, 2, "about", 7, 0);
    }

    private static void leans() {
        int[] due = {0, 1, -1, -1, 0, 1};
        for (int kind = 0; kind < 6; kind++) {
            Sentence.due(of(kind), due[kind], "about", 0, 1);
        }
    }

    private static void forces() {
        int[] due = {1, 1, 1, 2, 0, 1};
        for (int kind = 0; kind < 6; kind++) {
            Sentence.due(of(kind), due[kind], "about", 0, 2);
        }
    }

    private static void tablesReach() {
        for (int table = 0; table < 6; table++) {
            WheelStand x = new WheelStand();
            Sentence.due(x, 17, "table", table, 17);
            Sentence.due(x, 0, "enter", table, 16, 1000);
            Sentence.due(x, 1000, "enter", table, 16, -1000);
            Sentence.due(x, BAD, "enter", table, 16, 1001);
            Sentence.due(x, BAD, "enter", table, 16, -1001);
            Sentence.due(x, INDEX, "enter", table, 17, 0);
            Sentence.due(x, BAD, "table", table, 18);
            Sentence.due(x, -1000, "tells", table, 16);
        }
        WheelStand far = new WheelStand();
        far.wheel(32);
        far.table(UP, 17);
        far.enter(UP, 16, 1000);
        far.turn(0, 100);
        Sentence.due(far, 100000, "reading", 1, 16);
        Sentence.due(far, 0, "reading", 1, 15);
    }

    private static void missingAtFirst() {
        for (int table = 0; table < 6; table++) {
            Sentence.due(new WheelStand(), NOTHING, "enter", table, 0, 0);
            Sentence.due(new WheelStand(), NOTHING, "copy", table, table, 0);
        }
    }

    private static void shortRows() {
        WheelStand x = new WheelStand();
        for (int table = 0; table < 6; table++) {
            x.table(table, 5);
            for (int d = 0; d < 5; d++) {
                x.enter(table, d, 1000);
            }
            // what was behind the new end counts no more
            Sentence.fill(x, table, 0, 4);
        }
        x.turn(0, 1);
        for (int j = 2; j < 7; j++) {
            Sentence.due(x, 0, "reading", 0, j);
            Sentence.due(x, 0, "reading", 1, j);
            Sentence.due(x, 500, "about", j, 3);
            Sentence.due(x, 500, "loaded", 100000, 0, j);
        }
        x.snap(0);
        for (int j = 2; j < 7; j++) {
            Sentence.due(x, 500, "about", j, 3);
        }
    }

    private static void missingRows() {
        WheelStand x = new WheelStand();
        for (int table = 0; table < 6; table++) {
            Sentence.fill(x, table, 9, 8, 7, 6, 5);
            Sentence.due(x, 0, "table", table, -1);
            Sentence.due(x, 0, "tells", table, 0);
        }
        Sentence.due(x, 500, "turn", 0, 100);
        for (int j = 0; j < 8; j++) {
            Sentence.due(x, 0, "reading", 0, j);
            Sentence.due(x, 0, "reading", 1, j);
            Sentence.due(x, 500, "about", j, 3);
            Sentence.due(x, 500, "loaded", 100000, 0, j);
        }
        x.snap(0);
        Sentence.due(x, 500, "about", 1, 3);
        Sentence.due(x, 500, "about", 7, 3);
    }

    private static WheelStand withTables() {
        WheelStand x = new WheelStand();
        Sentence.fill(x, SIDE, 7, 3);
        Sentence.fill(x, UP, 11, -2);
        Sentence.fill(x, PULL, 4, 100, -3);
        Sentence.fill(x, OTHER, 100, 5, 100);
        return x;
    }

    private static void quarters() {
        for (int n : new int[] {1, -1, 2, 100, -100}) {
            WheelStand x = withTables();
            x.limit(4, 1000000);
            Sentence.due(x, 500 + 4 * n, "turn", 0, n);
            Sentence.due(x, 7 * n, "reading", 0, 0);
            Sentence.due(x, 3 * n, "reading", 0, 7);
            Sentence.due(x, -2 * n, "reading", 1, 1);
            Sentence.due(x, 500 + 5 * n, "about", 7, 3);
            Sentence.due(x, 500 - 3 * n, "about", 6, 3);
        }
    }

    private static void sideByKind() {
        int[] due = {0, 7, -7, -14, 0, 7};
        for (int kind : new int[] {0, 1, 2, 3, 5}) {
            WheelStand x = withTables();
            x.kind(0, kind);
            x.turn(0, 1);
            Sentence.due(x, due[kind], "reading", 0, 0);
        }
    }

    private static void upByKind() {
        int[] due = {11, 11, 11, 22, 0, 11};
        for (int kind : new int[] {0, 1, 2, 3, 5}) {
            WheelStand x = withTables();
            x.kind(0, kind);
            x.turn(0, 1);
            Sentence.due(x, due[kind], "reading", 1, 0);
        }
    }

    private static void pullsOfGone() {
        WheelStand x = withTables();
        x.snap(1);
        x.snap(2);
        x.turn(0, 1);
        Sentence.due(x, 0, "about", 1, 3);
        Sentence.due(x, 0, "about", 2, 3);
        Sentence.due(x, 505, "about", 7, 3);
        // the rim is bent where a spoke is gone, too
        Sentence.due(x, 3, "reading", 0, 1);
    }

    private static void pullsByKind() {
        int[] leans = {0, 1, -1, -1, 9, 1};
        for (int turned : new int[] {0, 1, 2, 3, 5}) {
            for (int other : new int[] {0, 1, 2, 3, 5}) {
                WheelStand x = new WheelStand();
                Sentence.fill(x, PULL, 1, 10);
                Sentence.fill(x, OTHER, 2, 20);
                x.kind(0, turned);
                x.kind(7, other);
                int force = turned == 3 ? 2 : 1;
                Sentence.due(x, 500 + force, "turn", 0, 1);
                // two that lean to no side lean alike
                Sentence.due(x, 500 + force * (leans[turned] == leans[other] ? 10 : 20), "about", 7, 3);
            }
        }
    }

    private static void kindsAsTurned() {
        WheelStand x = withTables();
        x.turn(0, 1);
        x.kind(0, 3);
        x.kind(7, 1);
        Sentence.due(x, 7, "reading", 0, 0);
        Sentence.due(x, 11, "reading", 1, 0);
        Sentence.due(x, 504, "about", 0, 3);
        Sentence.due(x, 505, "about", 7, 3);
        x.turn(0, 1);
        Sentence.due(x, 7 - 14, "reading", 0, 0);
        Sentence.due(x, 504 + 8, "about", 0, 3);
        x.snap(0);
        Sentence.due(x, 7 - 14, "reading", 0, 0);
    }
}
