/** Promises 17 to 22. */
public final class TurnsTest {
    private static final int BAD = WheelStand.BAD, NO = WheelStand.NO, FULL = WheelStand.FULL, NONE = WheelStand.NONE;

    public static void main(String[] args) {
        turn();
        turnPulls();
        turnRefused();
        full();
        next();
        nextOfSeveral();
        plan();
        planEnds();
        fewestNoneAndOne();
        fewestTwo();
        fewestOfBothWays();
        fewestOfEachLimit();
        fewestRefused();
        log();
        undo();
        undoAsItIsNow();
        wholeOrder();
        Check.end();
    }

    private static void turn() {
        WheelStand x = new WheelStand();
        Check.due("17: tables missing", x.turn(0, 100), 500);
        Check.fill(x, 2, 3);
        Check.due("17: most", x.turn(7, 100), 800);
        Check.due("17: least", x.turn(7, -100), 500);
        for (int n : new int[] {0, 101, -101, Integer.MIN_VALUE, Integer.MAX_VALUE}) {
            Check.due("17: n", x.turn(7, n), BAD);
        }
        Check.due("17: spoke", x.turn(8, 1), BAD);
        Check.due("17: spoke", x.turn(-1, 1), BAD);
        Check.due("17: logged", x.count(2), 3);
    }

    private static void turnPulls() {
        WheelStand x = new WheelStand();
        x.wheel(16);
        Check.fill(x, 2, 40, 1, -7, 2, 5);
        Check.fill(x, 3, 900, 3, 8, 11);
        x.kind(1, 3);
        x.kind(2, 0);
        x.kind(4, 0);
        x.snap(15);
        Check.due("17: thick", x.turn(1, -2), 340);
        int[] due = {488, 340, 488, 528, 456, 480, 500, 500, 500, 500, 500, 500, 500, 480, 456, 0};
        for (int j = 0; j < 16; j++) {
            Check.due("17: pull of " + j, x.about(j, 3), due[j]);
        }
        // two that lean to no side lean alike
        Check.due("17: spoke", x.turn(2, 1), 528);
        Check.due("17: spoke to spoke", x.about(4, 3), 449);
        Check.due("17: spoke to left", x.about(0, 3), 496);
        Check.due("17: spoke to right", x.about(3, 3), 531);
    }

    private static void turnRefused() {
        WheelStand x = new WheelStand();
        Check.fill(x, 2, 100);
        Check.fill(x, 3, 0, -30);
        Check.due("17: up to the limit", x.turn(0, 5), 1000);
        Check.due("17: above it", x.turn(0, 1), NO);
        Check.due("17: nothing changed", x.about(0, 3), 1000);
        Check.due("17: nothing logged", x.count(2), 1);
        Check.due("17: others stay", x.about(1, 3), 350);
        for (int other : new int[] {0, 4}) {
            int was = x.tune(other, 1001);
            Check.due("17: another one is above it", x.turn(2, -1), NO);
            x.tune(other, was);
        }
        x.tune(4, 1001);
        Check.due("17: brought back", x.turn(4, -1), 901);
        Check.due("17: another one would be above it", x.turn(1, -1), NO);
        x.table(3, -1);
        Check.due("17: low is fine", x.turn(3, -100), 530 - 10000);
        x.snap(6);
        Check.due("17: gone", x.turn(6, 1), NO);
        Check.due("17: bad before gone", x.turn(6, 0), BAD);
    }

    private static void full() {
        WheelStand x = new WheelStand();
        for (int i = 0; i < 60; i++) {
            Check.due("17: turn " + i, x.turn(i % 8, 1), 500);
        }
        Check.fill(x, 2, 1);
        Check.due("17: full", x.turn(0, 1), FULL);
        Check.due("17: nothing changed", x.about(0, 3), 500);
        Check.due("17: still 60", x.count(2), 60);
        x.limit(4, 500);
        Check.due("17: refused before full", x.turn(0, 1), NO);
        x.snap(3);
        Check.due("17: gone before full", x.turn(3, -1), NO);
        x.undo();
        Check.due("17: room again", x.turn(0, -1), 499);
        Check.due("17: full again", x.turn(0, -1), FULL);
    }

    private static void next() {
        WheelStand x = new WheelStand();
        Check.due("18: nothing to better", x.next(), NONE);
        x.read(0, 0, 300);
        x.read(0, 1, 0);
        x.read(0, 7, 0);
        Check.due("18: no table", x.next(), NONE);
        Check.fill(x, 0, 60, 10);
        Check.due("18: left, back", x.next(), 1);
        x.kind(0, 2);
        Check.due("18: right, on", x.next(), 0);
        x.limit(4, 499);
        Check.due("18: all refused", x.next(), NONE);
        x.limit(4, 500);
        Check.due("18: none refused", x.next(), 0);
        x.snap(0);
        Check.due("18: its neighbour", x.next(), 2);
        Check.due("18: nothing done", x.count(2), 0);
        Check.due("18: nothing made", x.reading(0, 0), 300);
    }

    private static void nextOfSeveral() {
        WheelStand x = new WheelStand();
        for (int place = 0; place < 8; place++) {
            x.read(1, place, 0);
        }
        x.read(1, 3, 90);
        Check.fill(x, 1, 0, 30);
        Check.due("18: two alike, the least", x.next(), 5);
        x.read(1, 3, 30);
        Check.due("18: no more than 30 less", x.next(), NONE);
        x.wheel(8);
        x.table(1, -1);
        Check.fill(x, 2, 50);
        x.tune(0, 600);
        x.tune(2, 550);
        x.tune(4, 550);
        x.tune(6, 550);
        x.limit(3, 10);
        Check.due("18: spread left", x.next(), 1);
        x.turn(0, -1);
        Check.due("18: none is better", x.next(), NONE);
        x.wheel(8);
        x.limit(3, 1000);
        Check.fill(x, 0, 3);
        x.read(0, 0, 17);
        x.limit(2, 1);
        Check.due("18: middle", x.next(), 1);
        x.read(0, 0, -17);
        // -133 / 8 is -17 still
        Check.due("18: middle, below 0", x.next(), NONE);
        x.enter(0, 0, 8);
        Check.due("18: middle, below 0, by 8", x.next(), 0);
    }

    private static void plan() {
        WheelStand x = new WheelStand();
        for (int place = 0; place < 8; place++) {
            x.read(0, place, 0);
            x.read(1, place, 0);
        }
        x.read(1, 2, 95);
        x.read(1, 5, -60);
        Check.fill(x, 1, 10);
        Check.due("19: three", x.plan(3), 3);
        for (int i = 0; i < 3; i++) {
            Check.due("19: spoke", x.log(i, 0), 2);
            Check.due("19: quarters", x.log(i, 1), -1);
        }
        Check.due("19: 65 are left", x.reading(1, 2), 65);
        Check.due("19: one", x.plan(1), 1);
        Check.due("19: then that below", x.plan(1), 1);
        Check.due("19: spoke 5", x.log(4, 0), 5);
        Check.due("19: on", x.log(4, 1), 1);
        Check.due("19: as long as there is one", x.plan(60), 10);
        Check.due("19: none left", x.plan(60), 0);
        Check.due("19: logged", x.count(2), 15);
        Check.due("19: n", x.plan(0), BAD);
        Check.due("19: n", x.plan(61), BAD);
        Check.due("19: n", x.plan(-1), BAD);
    }

    private static void planEnds() {
        WheelStand x = new WheelStand();
        Check.fill(x, 1, 1);
        x.read(1, 0, 9999);
        for (int place = 1; place < 8; place++) {
            x.read(1, place, 0);
        }
        Check.due("19: the most", x.plan(60), 60);
        Check.due("19: the log is full", x.plan(1), 0);
        Check.due("19: there is a next one", x.next(), 1);
        Check.due("19: and the fewest are asked", x.fewest(0), NONE);
        x.undo();
        x.undo();
        Check.due("19: ends as it is full", x.plan(5), 2);
        Check.due("19: made", x.reading(1, 0), 9939);
    }

    private static WheelStand flat(int... up) {
        WheelStand x = new WheelStand();
        for (int place = 0; place < 8; place++) {
            x.read(0, place, 0);
            x.read(1, place, place < up.length ? up[place] : 0);
        }
        Check.fill(x, 1, 10);
        x.limit(1, 5);
        return x;
    }

    private static void dueFewest(String what, WheelStand x, int... want) {
        for (int i = 0; i < 5; i++) {
            Check.due(what + ", fewest(" + i + ")", x.fewest(i), i < want.length ? want[i] : NONE);
        }
    }

    private static void fewestNoneAndOne() {
        dueFewest("20: within", new WheelStand(), 0);
        dueFewest("20: within, with a pull above limit 4", limited(flat(), 1), 0);
        dueFewest("20: one", flat(0, 0, 40), 1, 2, -4);
        dueFewest("20: the first one", flat(-40), 1, 0, 4);
        dueFewest("20: one more than four", flat(-46));
        dueFewest("20: the nearest to 0", flat(0, 0, 0, -15), 1, 3, 1);
        dueFewest("20: too far for one", flat(0, 0, 46));
        WheelStand x = flat(6, 0, 6);
        x.table(1, 2);
        x.enter(1, 1, -3);
        dueFewest("20: the one between", x, 1, 1, 1);
        WheelStand y = flat(0, 0, 0, 0, 0, 0, 0, -6);
        x.table(1, 1);
        y.enter(1, 0, 6);
        dueFewest("20: the last", y, 1, 7, 1);
        Check.due("20: what", y.fewest(-1), BAD);
        Check.due("20: what", y.fewest(5), BAD);
        Check.due("20: nothing done", y.count(2), 0);
        Check.due("20: nothing made", y.reading(1, 7), -6);
    }

    private static WheelStand limited(WheelStand x, int pull) {
        x.limit(4, pull);
        return x;
    }

    private static void fewestTwo() {
        dueFewest("20: two", flat(0, 20, 0, 0, 0, 0, -40), 2, 1, -2, 6, 4);
        dueFewest("20: the first and the last", flat(-6, 0, 0, 0, 0, 0, 0, 6), 2, 0, 1, 7, -1);
        dueFewest("20: three would do", flat(10, 10, 10));
        WheelStand x = flat(12, 0, 0, 0, 0, 0, 0, 0);
        // of one: none does 12; of two 5 and 5 from both sides do
        x.table(1, 2);
        x.enter(1, 1, 5);
        x.limit(1, 5);
        dueFewest("20: from both sides", x, 2, 1, -1, 7, -1);
        WheelStand y = flat(0, 0, 90);
        y.limit(1, 10);
        dueFewest("20: far", y);
        Check.due("20: nothing made", y.reading(1, 2), 90);
        Check.due("20: no pull changed", y.about(2, 3), 500);
    }

    /** Spoke 0 could go both ways: on, with 7 on; back, with 1 back. */
    private static void fewestOfBothWays() {
        WheelStand x = flat(0, 2, 0, 1, 1, 0, 0, -2);
        Check.fill(x, 1, 2, -1);
        x.limit(1, 1);
        dueFewest("20: of two alike that above 0", x, 2, 0, 1, 7, 1);
        x.snap(7);
        dueFewest("20: the other way", x, 2, 0, -1, 1, -1);
    }

    private static void fewestOfEachLimit() {
        WheelStand left = new WheelStand();
        Check.fill(left, 2, 30);
        left.tune(2, 360);
        dueFewest("20: spread left", left, 1, 2, 2);
        left.tune(2, 500);
        left.tune(3, 650);
        dueFewest("20: spread right", left, 1, 3, -2);
        left.tune(6, 290);
        dueFewest("20: both spreads", left, 2, 3, -2, 6, 4);
        left.tune(6, 279);
        dueFewest("20: too far spread", left);
        WheelStand loose = new WheelStand();
        Check.fill(loose, 2, 30);
        loose.limit(3, 1000);
        loose.tune(0, -31);
        dueFewest("20: loose", loose, 1, 0, 2);
        loose.tune(7, -120);
        dueFewest("20: two loose", loose, 2, 0, 2, 7, 4);
        WheelStand middle = new WheelStand();
        Check.fill(middle, 0, 20, 10);
        middle.read(0, 0, 9);
        middle.limit(2, 4);
        dueFewest("20: middle", middle, 1, 0, -1);
        middle.read(0, 0, -9);
        dueFewest("20: middle, below 0", middle, 1, 0, 1);
        middle.kind(0, 0);
        dueFewest("20: middle, by the next one", middle, 1, 1, -1);
    }

    private static void fewestRefused() {
        WheelStand x = flat(0, 0, -10);
        Check.fill(x, 2, 50);
        dueFewest("20: not refused", x, 1, 2, 1);
        x.limit(4, 549);
        dueFewest("20: refused", x);
        x.limit(4, 550);
        dueFewest("20: just not refused", x, 1, 2, 1);
        x.snap(2);
        dueFewest("20: gone", x);
        // s first: 3 would lower the pull that 2 raises too much, but comes behind it
        WheelStand y = flat(0, 0, -10, 10);
        Check.fill(y, 2, 50);
        Check.fill(y, 3, 0, 50);
        y.limit(4, 549);
        dueFewest("20: the first is refused on its way", y);
        y.limit(4, 550);
        dueFewest("20: the first is borne", y, 2, 2, 1, 3, -1);
        WheelStand z = flat(0, 0, 10, -10);
        Check.fill(z, 2, 50);
        Check.fill(z, 3, 0, 50);
        z.snap(4);
        z.limit(4, 500);
        dueFewest("20: the other order is borne", z, 2, 2, -1, 3, 1);
    }

    private static void log() {
        WheelStand x = new WheelStand();
        Check.due("21: none", x.log(0, 0), NONE);
        x.turn(3, -100);
        x.turn(5, 7);
        Check.due("21: spoke", x.log(0, 0), 3);
        Check.due("21: quarters", x.log(0, 1), -100);
        Check.due("21: spoke", x.log(1, 0), 5);
        Check.due("21: quarters", x.log(1, 1), 7);
        Check.due("21: no more", x.log(2, 1), NONE);
        Check.due("21: far more", x.log(Integer.MAX_VALUE, 1), NONE);
        Check.due("21: i", x.log(-1, 0), BAD);
        Check.due("21: i", x.log(Integer.MIN_VALUE, 0), BAD);
        Check.due("21: what", x.log(0, 2), BAD);
        Check.due("21: what", x.log(0, -1), BAD);
        Check.due("21: what, of none", x.log(9, 2), BAD);
        x.undo();
        Check.due("21: taken back", x.log(1, 0), NONE);
    }

    private static void undo() {
        WheelStand x = new WheelStand();
        Check.due("22: none", x.undo(), NO);
        Check.fill(x, 0, 5, 2);
        Check.fill(x, 1, 4, 1);
        Check.fill(x, 2, 10, 1, 2);
        Check.fill(x, 3, 10, 3);
        x.turn(0, 3);
        int side = x.reading(0, 1), up = x.reading(1, 1), pull = x.about(1, 3);
        x.turn(1, -9);
        Check.due("22: one left", x.undo(), 1);
        Check.due("22: side", x.reading(0, 1), side);
        Check.due("22: up", x.reading(1, 1), up);
        Check.due("22: pull", x.about(1, 3), pull);
        Check.due("22: none left", x.undo(), 0);
        for (int i = 0; i < 8; i++) {
            Check.due("22: side at " + i, x.reading(0, i), 0);
            Check.due("22: up at " + i, x.reading(1, i), 0);
            Check.due("22: pull of " + i, x.about(i, 3), 500);
        }
        Check.due("22: none again", x.undo(), NO);
    }

    private static void undoAsItIsNow() {
        WheelStand x = new WheelStand();
        Check.fill(x, 0, 5);
        Check.fill(x, 1, 4);
        Check.fill(x, 2, 10);
        x.turn(0, -60);
        x.limit(4, 1);
        x.kind(0, 3);
        Check.due("22: whatever pulls come of it", x.undo(), 0);
        Check.due("22: by twice the force", x.about(0, 3), 500 - 600 + 1200);
        Check.due("22: to the other side", x.reading(0, 0), -300 - 600);
        Check.due("22: up", x.reading(1, 0), -240 + 480);
        WheelStand y = new WheelStand();
        Check.fill(y, 0, 5, 1);
        Check.fill(y, 2, 10, 1);
        Check.fill(y, 3, 10, 1);
        y.turn(0, 4);
        y.turn(1, 1);
        y.snap(0);
        y.undo();
        Check.due("22: gone gets nothing", y.about(0, 3), 0);
        Check.due("22: gone, leaves the log", y.undo(), 0);
        Check.due("22: gone, nothing is made", y.reading(0, 0), 20);
        Check.due("22: gone, no pull", y.about(1, 3), 504);
        Check.due("22: gone, log", y.count(2), 0);
        WheelStand z = new WheelStand();
        Check.fill(z, 1, 4);
        z.turn(2, 3);
        z.table(1, -1);
        z.undo();
        Check.due("22: by tables as they are", z.reading(1, 2), 12);
    }

    /** Sums of all turns, in whatever order. */
    private static void wholeOrder() {
        WheelStand x = new WheelStand();
        WheelStand y = new WheelStand();
        for (WheelStand w : new WheelStand[] {x, y}) {
            Check.fill(w, 0, 9, -4, 3, 2, 1);
            Check.fill(w, 1, 7, 5, -3, 1, 1);
            Check.fill(w, 2, 6, -2, 1);
            Check.fill(w, 3, 0, -1, 2, 1);
            w.kind(1, 3);
            w.kind(4, 0);
            w.kind(6, 5);
        }
        int[][] turns = {{1, 3}, {4, -7}, {6, 2}, {7, 9}, {1, -1}};
        for (int i = 0; i < 5; i++) {
            x.turn(turns[i][0], turns[i][1]);
            y.turn(turns[4 - i][0], turns[4 - i][1]);
        }
        for (int i = 0; i < 8; i++) {
            Check.due("14: side at " + i, x.reading(0, i), y.reading(0, i));
            Check.due("14: up at " + i, x.reading(1, i), y.reading(1, i));
            Check.due("17: pull of " + i, x.about(i, 3), y.about(i, 3));
        }
    }
}
