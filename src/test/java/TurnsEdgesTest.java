/** The sentences of promises 17 to 22 that name a boundary case. */
public final class TurnsEdgesTest {
    private static final int BAD = Sentence.BAD, NO = Sentence.NO, FULL = Sentence.FULL, NONE = Sentence.NONE;
    private static final int SIDE = 0, UP = 1, PULL = 2;

    public static void main(String[] args) {
        Sentence.says("promise 17", "A SPOKE is TURNED by n quarters (-100 .. 100, not 0): its PULL.", TurnsEdgesTest::turn);
        Sentence.says("promise 17", "BAD", TurnsEdgesTest::turnBad);
        Sentence.says("promise 17", "NO", TurnsEdgesTest::turnNo);
        Sentence.says("promise 17", "FULL", TurnsEdgesTest::turnFull);
        Sentence.says("promise 18", "THE NEXT quarter: 2 * SPOKE, and 1 if it is -1", TurnsEdgesTest::next);
        Sentence.says("promise 18", "NONE.", TurnsEdgesTest::nextNone);
        Sentence.says("promise 19", "A PLAN of n (1 .. 60): how many quarters were done.", TurnsEdgesTest::plan);
        Sentence.says("promise 19", "BAD.", TurnsEdgesTest::planBad);
        Sentence.says("promise 19", "(It ends, too, as the LOG is full.)", TurnsEdgesTest::planFull);
        Sentence.says("promise 20", "THE FEWEST, up to two: how many SPOKES (what 0), s (1), its quarters (2), t (3), its quarters (4)", TurnsEdgesTest::fewest);
        Sentence.says("promise 20", "NONE: there is no such", TurnsEdgesTest::fewestNoSuch);
        Sentence.says("promise 20", "for what 1 to 4: there are not so many.", TurnsEdgesTest::fewestNotSoMany);
        Sentence.says("promise 20", "BAD.", TurnsEdgesTest::fewestBad);
        Sentence.says("terms 3, nothing is done", "turns by which it would be WITHIN", TurnsEdgesTest::fewestKeepsAll);
        Sentence.says("promise 21", "Of the LOG, entry i: what 0 SPOKE, 1 quarters.", TurnsEdgesTest::log);
        Sentence.says("promise 21", "NONE: there are not so many.", TurnsEdgesTest::logNone);
        Sentence.says("promise 21", "BAD: i is below 0, what.", TurnsEdgesTest::logBad);
        Sentence.says("promise 22", "The latest turn is TAKEN BACK: how many are in the LOG still.", TurnsEdgesTest::undo);
        Sentence.says("promise 22", "NO: there is none.", TurnsEdgesTest::undoNone);
        Sentence.end();
    }

    private static void turn() {
        for (int spoke : new int[] {0, 7}) {
            for (int n : new int[] {-100, -99, -1, 1, 99, 100}) {
                WheelStand x = new WheelStand();
                Sentence.fill(x, PULL, 5);
                Sentence.due(x, 500 + 5 * n, "turn", spoke, n);
                Sentence.due(x, 500 + 5 * n, "about", spoke, 3);
                Sentence.due(x, 1, "count", 2);
            }
        }
        // its own PULL, not what was made of it; below 0 as well
        WheelStand x = new WheelStand();
        Sentence.fill(x, PULL, 1000);
        x.kind(0, 3);
        Sentence.due(x, 500 - 200000, "turn", 0, -100);
        Sentence.due(x, 500 - 400000, "turn", 0, -100);
    }

    private static void turnBad() {
        Sentence.takesOnly(0, 0, 7, "turn", 0, 1);
        Sentence.takesOnly(1, -100, 100, "turn", 4, 1);
        Sentence.keepsAll(BAD, "turn", 0, 0);
        Sentence.takesHoles(0, "turn", 0, 1);
        // of several the first: spoke 7 is gone, and the log may be full
        Sentence.keepsAll(BAD, "turn", 7, 0);
        Sentence.keepsAll(BAD, "turn", 7, 101);
        Sentence.keepsAll(TurnsEdgesTest::full, BAD, "turn", 0, 0);
        Sentence.keepsAll(TurnsEdgesTest::full, BAD, "turn", 8, 1);
        Sentence.keepsAll(TurnsEdgesTest::full, BAD, "turn", 0, -101);
    }

    private static void turnNo() {
        Sentence.keepsAll(NO, "turn", 7, 1);
        Sentence.keepsAll(NO, "turn", 7, -100);
        // 0 has 705 of at most 900, and gets 60 by a quarter
        WheelStand x = new WheelStand();
        Sentence.worked(x);
        Sentence.due(x, 885, "turn", 0, 3);
        Sentence.keepsAll(NO, "turn", 0, 4);
        // a turn back of 2, which lies two steps off, lowers 0; a turn on raises it by 7 a quarter
        Sentence.due(x, 507 + 21 + 120, "turn", 2, 2);
        Sentence.due(x, NO, "turn", 2, 1);
        Sentence.due(x, 507 + 21 + 60, "turn", 2, -1);
        Sentence.keepsAll(NO, "turn", 0, 100);
        // of several the first: refused, and the log is full
        Sentence.keepsAll(TurnsEdgesTest::full, NO, "turn", 3, 1);
        Sentence.keepsAll(TurnsEdgesTest::full, NO, "turn", 0, 6);
    }

    /** 60 turns; a quarter adds 100 to the pull; spoke 3 is gone. */
    private static void full(WheelStand x) {
        for (int i = 0; i < 60; i++) {
            x.turn(i % 8, i % 2 == 0 ? 1 : -1);
        }
        x.table(UP, 1);
        x.enter(UP, 0, 10);
        x.read(1, 0, 50);
        x.read(1, 1, 0);
        x.read(1, 7, 0);
        x.table(PULL, 1);
        x.enter(PULL, 0, 100);
        x.limit(3, 100000);
        x.snap(3);
    }

    private static void turnFull() {
        Sentence.keepsAll(TurnsEdgesTest::full, FULL, "turn", 0, 1);
        Sentence.keepsAll(TurnsEdgesTest::full, FULL, "turn", 0, 5);
        Sentence.keepsAll(TurnsEdgesTest::full, FULL, "turn", 7, -100);
        WheelStand x = new WheelStand();
        full(x);
        x.undo();
        Sentence.due(x, 600, "turn", 0, 1);
        Sentence.due(x, FULL, "turn", 0, 1);
    }

    private static void next() {
        for (int holes : new int[] {8, 16, 32}) {
            for (int spoke : new int[] {0, 1, holes - 1}) {
                WheelStand x = new WheelStand();
                x.wheel(holes);
                Sentence.fill(x, UP, 10);
                x.read(1, (spoke + 1) % holes, 0);
                x.read(1, (spoke + holes - 1) % holes, 0);
                x.read(1, spoke, -40);
                Sentence.due(x, 2 * spoke, "next");
                x.read(1, spoke, 40);
                Sentence.due(x, 2 * spoke + 1, "next");
                // sideways it is the other way for those that lean -1
                x.read(1, spoke, 0);
                Sentence.fill(x, SIDE, 10);
                x.read(0, (spoke + 1) % holes, 0);
                x.read(0, (spoke + holes - 1) % holes, 0);
                x.read(0, spoke, 90);
                Sentence.due(x, 2 * spoke + (spoke % 2 == 0 ? 1 : 0), "next");
            }
        }
        Sentence.keepsAll(2, "next");
        Sentence.keepsAll(TurnsEdgesTest::full, 1, "next");
    }

    private static void nextNone() {
        Sentence.due(new WheelStand(), NONE, "next");
        // nothing makes it better
        WheelStand x = new WheelStand();
        x.read(1, 0, 9999);
        Sentence.due(x, NONE, "next");
        // all are gone
        Sentence.fill(x, UP, 1, 1, 1, 1, 1);
        Sentence.due(x, 1, "next");
        for (int s = 0; s < 8; s++) {
            x.snap(s);
        }
        Sentence.due(x, NONE, "next");
        Sentence.keepsAll(WheelStand::why, NONE, "next");
    }

    private static WheelStand far() {
        WheelStand x = new WheelStand();
        Sentence.fill(x, UP, 1);
        for (int place = 0; place < 8; place++) {
            x.read(1, place, place == 2 ? -9999 : 0);
        }
        return x;
    }

    private static void plan() {
        for (int n : new int[] {1, 2, 59, 60}) {
            WheelStand x = far();
            Sentence.due(x, n, "plan", n);
            Sentence.due(x, n, "count", 2);
            Sentence.due(x, n, "count", 3);
            Sentence.due(x, 2, "log", n - 1, 0);
            Sentence.due(x, 1, "log", n - 1, 1);
            Sentence.due(x, n - 9999, "reading", 1, 2);
        }
        Sentence.keepsAll(WheelStand::next, 0, "plan", 60);
    }

    private static void planBad() {
        Sentence.takesOnly(0, 1, 60, "plan", 1);
        Sentence.keepsAll(TurnsEdgesTest::full, BAD, "plan", 0);
        Sentence.keepsAll(TurnsEdgesTest::full, BAD, "plan", 61);
    }

    private static void planFull() {
        Sentence.keepsAll(TurnsEdgesTest::full, 0, "plan", 1);
        Sentence.keepsAll(TurnsEdgesTest::full, 0, "plan", 60);
        for (int room : new int[] {1, 2, 10}) {
            WheelStand x = far();
            for (int i = room; i < 60; i++) {
                x.turn(7, i % 2 == 0 ? 1 : -1);
            }
            Sentence.due(x, room, "plan", 60);
            Sentence.due(x, 60, "count", 2);
            Sentence.due(x, 0, "plan", 60);
            Sentence.due(x, room - 9999, "reading", 1, 2);
        }
    }

    /** Up to two of spokes 2 and 5 are out, by as many quarters. */
    private static void out(WheelStand x, int two, int five) {
        x.table(UP, 1);
        x.enter(UP, 0, 100);
        for (int place = 0; place < 8; place++) {
            x.read(1, place, place == 2 ? -100 * two : place == 5 ? -100 * five : 0);
        }
        x.limit(1, 99);
    }

    private static void dueFewest(int two, int five, int... want) {
        for (int what = 0; what < 5; what++) {
            Sentence.keepsAll(x -> out(x, two, five), what < want.length ? want[what] : NONE, "fewest", what);
        }
    }

    private static void fewest() {
        dueFewest(4, -4, 2, 2, 4, 5, -4);
        dueFewest(-1, 2, 2, 2, -1, 5, 2);
    }

    private static void fewestNoSuch() {
        dueFewest(5, 0);
        dueFewest(-5, 4);
        dueFewest(4, -5);
        // none is left to turn
        WheelStand x = new WheelStand();
        out(x, 1, 0);
        for (int s = 0; s < 8; s++) {
            x.snap(s);
        }
        Sentence.due(x, NONE, "fewest", 0);
    }

    private static void fewestNotSoMany() {
        dueFewest(0, 0, 0);
        dueFewest(0, 3, 1, 5, 3);
        dueFewest(-3, 0, 1, 2, -3);
    }

    private static void fewestBad() {
        Sentence.takesOnly(0, 0, 4, "fewest", 0);
        // there is no such, and what is wrong
        Sentence.keepsAll(x -> out(x, 5, 5), BAD, "fewest", 5);
        Sentence.keepsAll(x -> out(x, 5, 5), BAD, "fewest", -1);
        Sentence.keepsAll(x -> out(x, 0, 0), BAD, "fewest", 5);
    }

    private static void fewestKeepsAll() {
        for (int what = 0; what < 5; what++) {
            WheelStand x = new WheelStand();
            Sentence.worked(x);
            Sentence.keepsAll(x.fewest(what), "fewest", what);
            // with a limit that refuses some of what is tried
            WheelStand y = new WheelStand();
            Sentence.worked(y);
            y.limit(4, 720);
            Sentence.keepsAll(z -> {
                Sentence.worked(z);
                z.limit(4, 720);
            }, y.fewest(what), "fewest", what);
        }
    }

    private static void log() {
        WheelStand x = new WheelStand();
        x.turn(0, -100);
        x.turn(7, 100);
        int[][] due = {{0, -100}, {7, 100}};
        for (int i = 0; i < 2; i++) {
            for (int what = 0; what < 2; what++) {
                Sentence.due(x, due[i][what], "log", i, what);
            }
        }
        Sentence.keepsAll(-1, "log", 1, 1);
    }

    private static void logNone() {
        Sentence.due(new WheelStand(), NONE, "log", 0, 0);
        Sentence.due(new WheelStand(), NONE, "log", 0, 1);
        Sentence.keepsAll(NONE, "log", 2, 0);
        Sentence.keepsAll(NONE, "log", 59, 1);
        Sentence.keepsAll(NONE, "log", 60, 0);
        Sentence.keepsAll(NONE, "log", Integer.MAX_VALUE, 1);
        Sentence.keepsAll(TurnsEdgesTest::full, NONE, "log", 60, 0);
        Sentence.keepsAll(TurnsEdgesTest::full, 3, "log", 59, 0);
    }

    private static void logBad() {
        for (int i : new int[] {-1, -60, Integer.MIN_VALUE}) {
            Sentence.keepsAll(BAD, "log", i, 0);
            Sentence.keepsAll(BAD, "log", i, 1);
            Sentence.keepsAll(BAD, "log", i, 2);
        }
        for (int what : new int[] {-1, 2, Integer.MIN_VALUE, Integer.MAX_VALUE}) {
            Sentence.keepsAll(BAD, "log", 0, what);
            // a call that is refused does not tell that there are not so many
            Sentence.keepsAll(BAD, "log", 2, what);
        }
    }

    private static void undo() {
        WheelStand x = new WheelStand();
        full(x);
        for (int left = 59; left >= 0; left--) {
            Sentence.due(x, left, "undo");
            Sentence.due(x, left, "count", 2);
        }
        Sentence.due(x, NO, "undo");
    }

    private static void undoNone() {
        Sentence.keepsAll(WheelStand::why, NO, "undo");
        Sentence.keepsAll(x -> {
            Sentence.worked(x);
            x.undo();
            x.undo();
        }, NO, "undo");
        Sentence.keepsAll(x -> {
            Sentence.worked(x);
            x.wheel(16);
        }, NO, "undo");
    }
}
