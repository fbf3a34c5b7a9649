/** The terms' parts 3 and 6, turns, plans, the fewest and the log: sentences that name a boundary case. */
public final class TermsTurnsTest {
    private static final int NO = Sentence.NO, FULL = Sentence.FULL, NONE = Sentence.NONE;
    private static final int SIDE = 0, UP = 1, PULL = 2, OTHER = 3;

    public static void main(String[] args) {
        Sentence.says("terms 3", "TO TURN s by n quarters is refused (NO) if s is GONE", TermsTurnsTest::goneIsNotTurned);
        Sentence.says("terms 3", "or some PULL would be above LIMIT 4", TermsTurnsTest::pullsUpToTheLimit);
        Sentence.says("terms 3, of any SPOKE", "some PULL would be above LIMIT 4", TermsTurnsTest::anyPull);
        Sentence.says("terms 3", "of all SPOKES, both ways (1 and -1)", TermsTurnsTest::nextBothWays);
        Sentence.says("terms 3", "not refused, that with which WORST would be least", TermsTurnsTest::nextIsNotRefused);
        Sentence.says("terms 3, of all that WORST is of", "that with which WORST would be least", TermsTurnsTest::nextByEach);
        Sentence.says("terms 3", "and less than it is", TermsTurnsTest::nextIsLess);
        Sentence.says("terms 3", "of several the least SPOKE, of it 1", TermsTurnsTest::nextOfSeveral);
        Sentence.says("terms 3", "(Whether the LOG is full is not asked for this, and the fewest.)", TermsTurnsTest::fullIsNotAsked);
        Sentence.says("terms 3", "A PLAN does the next one, again and again, n times at most", TermsTurnsTest::planAtMost);
        Sentence.says("terms 3", "as long as there is one", TermsTurnsTest::planAsLong);
        Sentence.says("terms 3, SIDE and UP", "THE FEWEST: turns by which it would be WITHIN", TermsTurnsTest::fewestByRim);
        Sentence.says("terms 3, MIDDLE", "THE FEWEST: turns by which it would be WITHIN", TermsTurnsTest::fewestByMiddle);
        Sentence.says("terms 3, SPREAD", "THE FEWEST: turns by which it would be WITHIN", TermsTurnsTest::fewestBySpread);
        Sentence.says("terms 3, LOOSE", "THE FEWEST: turns by which it would be WITHIN", TermsTurnsTest::fewestByLoose);
        Sentence.says("terms 3", "of no SPOKE", TermsTurnsTest::fewestNone);
        Sentence.says("terms 3", "else of one, by a number of quarters -4 .. 4 but 0", TermsTurnsTest::fewestOne);
        Sentence.says("terms 3", "else of two SPOKES s below t (each so)", TermsTurnsTest::fewestTwo);
        Sentence.says("terms 3", "of several the least s", TermsTurnsTest::fewestLeastS);
        Sentence.says("terms 3", "then the quarters of s nearest to 0", TermsTurnsTest::fewestNearest);
        Sentence.says("terms 3", "(of two alike that above 0)", TermsTurnsTest::fewestAboveZero);
        Sentence.says("terms 3", "then t, then its quarters likewise", TermsTurnsTest::fewestThenT);
        Sentence.says("terms 3", "(Refused turns are none", TermsTurnsTest::fewestRefused);
        Sentence.says("terms 3", "of two both are done one behind the other, s first.)", TermsTurnsTest::fewestInOrder);
        Sentence.says("terms 6", "THE LOG has all turns that were done, 60 at most (a turn more is FULL)", TermsTurnsTest::logAtMost);
        Sentence.says("terms 6", "spoke and quarters", TermsTurnsTest::logHas);
        Sentence.says("terms 6", "TAKEN BACK is the latest one: as a turn by as many quarters the other way round", TermsTurnsTest::takenBack);
        Sentence.says("terms 6", "(whatever PULLS come of it", TermsTurnsTest::takenBackWhateverPulls);
        Sentence.says("terms 6", "KINDS as they are now", TermsTurnsTest::takenBackKindsNow);
        Sentence.says("terms 6", "if it is GONE nothing is made)", TermsTurnsTest::takenBackGone);
        Sentence.says("terms 6", "it leaves the LOG", TermsTurnsTest::takenBackLeaves);
        Sentence.end();
    }

    /** A rim read as 0 all round, but for what is given of UP; a quarter makes 10 of UP at its place; LIMIT 1 is 5. */
    private static WheelStand bent(int... up) {
        WheelStand x = new WheelStand();
        for (int place = 0; place < 8; place++) {
            x.read(0, place, 0);
            x.read(1, place, place < up.length ? up[place] : 0);
        }
        Sentence.fill(x, UP, 10);
        x.limit(1, 5);
        return x;
    }

    private static void dueFewest(WheelStand x, int... want) {
        for (int what = 0; what < 5; what++) {
            Sentence.due(x, what < want.length ? want[what] : NONE, "fewest", what);
        }
    }

    private static void goneIsNotTurned() {
        WheelStand x = bent(50);
        x.snap(0);
        Sentence.due(x, NO, "turn", 0, 1);
        Sentence.due(x, NO, "turn", 0, -100);
        Sentence.due(x, 0, "count", 2);
        Sentence.due(x, NONE, "next");
        dueFewest(x);
        x.anew(0, 1, 0);
        Sentence.due(x, 1, "next");
        Sentence.due(x, 0, "turn", 0, -1);
    }

    private static void pullsUpToTheLimit() {
        WheelStand x = new WheelStand();
        Sentence.fill(x, PULL, 100);
        x.limit(4, 600);
        Sentence.due(x, NO, "turn", 0, 2);
        Sentence.due(x, 600, "turn", 0, 1);
        Sentence.due(x, NO, "turn", 0, 1);
        x.limit(4, 699);
        Sentence.due(x, NO, "turn", 0, 1);
        x.limit(4, 700);
        Sentence.due(x, 700, "turn", 0, 1);
        // there is no least one
        Sentence.due(x, -9300, "turn", 0, -100);
        // of the greatest limit, too
        WheelStand y = new WheelStand();
        Sentence.fill(y, PULL, 1000);
        y.limit(4, 1000000);
        for (int i = 1; i < 10; i++) {
            Sentence.due(y, 500 + 100000 * i, "turn", 0, 100);
        }
        Sentence.due(y, NO, "turn", 0, 100);
        Sentence.due(y, 999500, "turn", 0, 99);
        Sentence.due(y, NO, "turn", 0, 1);
    }

    private static void anyPull() {
        // one that no table reaches
        WheelStand x = new WheelStand();
        x.tune(5, 1001);
        Sentence.due(x, NO, "turn", 0, 1);
        Sentence.due(x, NO, "turn", 0, -1);
        x.tune(5, 1000);
        Sentence.due(x, 500, "turn", 0, 1);
        // another one that the turn raises
        WheelStand y = new WheelStand();
        Sentence.fill(y, OTHER, 0, -1);
        y.tune(7, 1000);
        Sentence.due(y, NO, "turn", 0, -1);
        Sentence.due(y, 500, "turn", 0, 1);
        Sentence.due(y, 999, "about", 7, 3);
        // one that the turn lowers to the limit
        y.tune(7, 1001);
        Sentence.due(y, 500, "turn", 0, 1);
        // one that is gone has none
        y.tune(7, 100000);
        y.snap(7);
        y.limit(4, 500);
        Sentence.due(y, 500, "turn", 0, 1);
    }

    private static void nextBothWays() {
        for (int spoke : new int[] {0, 7}) {
            for (int way = -1; way <= 1; way += 2) {
                WheelStand x = bent();
                x.read(1, spoke, way * 50);
                Sentence.due(x, 2 * spoke + (way == 1 ? 1 : 0), "next");
            }
        }
        WheelStand last = new WheelStand();
        last.wheel(32);
        Sentence.fill(last, UP, 10);
        last.read(1, 31, 50);
        last.read(1, 30, 0);
        last.read(1, 0, 0);
        Sentence.due(last, 63, "next");
        last.read(1, 31, -50);
        Sentence.due(last, 62, "next");
    }

    private static void nextIsNotRefused() {
        WheelStand x = bent(0, 0, -50);
        Sentence.fill(x, PULL, 500);
        Sentence.due(x, 4, "next");
        x.limit(4, 999);
        Sentence.due(x, NONE, "next");
        // the second best is taken if the best is refused; WORST counts the spread, so it has a wide limit
        WheelStand y = bent(0, 0, -50);
        y.limit(3, 1000000);
        Sentence.fill(y, UP, 10, 4);
        Sentence.fill(y, PULL, 500);
        Sentence.due(y, 4, "next");
        y.tune(2, 501);
        Sentence.due(y, 2, "next");
        y.snap(1);
        Sentence.due(y, 6, "next");
    }

    private static void nextByEach() {
        WheelStand side = bent();
        Sentence.fill(side, SIDE, 10);
        Sentence.fill(side, UP, 0);
        side.read(0, 7, 50);
        Sentence.due(side, 14, "next");
        WheelStand up = bent();
        up.read(1, 7, 50);
        Sentence.due(up, 15, "next");
        // the MIDDLE is 17, or -17, and 8 of SIDE make 1 of it
        WheelStand middle = new WheelStand();
        Sentence.fill(middle, SIDE, 4, 2);
        middle.limit(2, 1);
        middle.read(0, 0, 17);
        Sentence.due(middle, 1, "next");
        middle.read(0, 0, -17);
        Sentence.due(middle, 0, "next");
        middle.enter(SIDE, 1, 1);
        Sentence.due(middle, NONE, "next");
        middle.read(0, 0, 17);
        Sentence.due(middle, 1, "next");
        for (int spoke = 6; spoke < 8; spoke++) {
            WheelStand spread = new WheelStand();
            Sentence.fill(spread, PULL, 10);
            spread.tune(spoke, 520);
            Sentence.due(spread, 2 * spoke + 1, "next");
            spread.tune(spoke, 480);
            Sentence.due(spread, 2 * spoke, "next");
        }
        // WORST does not tell of what is LOOSE
        WheelStand loose = new WheelStand();
        Sentence.fill(loose, PULL, 10);
        loose.kind(0, 0);
        loose.tune(0, -5);
        Sentence.due(loose, NONE, "next");
    }

    private static void nextIsLess() {
        Sentence.due(new WheelStand(), NONE, "next");
        // 50 becomes 49, or 50 the other way
        WheelStand x = bent(50);
        x.limit(1, 100);
        x.enter(UP, 0, 100);
        Sentence.due(x, NONE, "next");
        x.enter(UP, 0, 99);
        Sentence.due(x, 1, "next");
        // less by so little that WORST stays
        WheelStand y = bent(50);
        y.limit(1, 1000000);
        y.enter(UP, 0, 1);
        Sentence.due(y, NONE, "next");
        y.limit(1, 1000);
        Sentence.due(y, 1, "next");
        // within, but there is a lesser WORST still
        WheelStand z = bent(4);
        z.enter(UP, 0, 1);
        Sentence.due(z, 1, "state", 5);
        Sentence.due(z, 1, "next");
        // two places alike: one quarter cannot better both
        WheelStand both = bent(50, 0, 0, 50);
        Sentence.due(both, NONE, "next");
    }

    private static void nextOfSeveral() {
        // 3 lies between 2 and 4, which do as much
        WheelStand x = bent(0, 0, 0, 50);
        Sentence.fill(x, UP, 0, 10);
        Sentence.due(x, 5, "next");
        x.snap(2);
        Sentence.due(x, 9, "next");
        // 0 lies between 7 and 1
        WheelStand y = bent(50);
        Sentence.fill(y, UP, 0, 10);
        Sentence.due(y, 3, "next");
        // a later one that does more is better than the least one
        WheelStand z = bent(0, 0, 0, 50);
        Sentence.fill(z, UP, 20, 10);
        Sentence.due(z, 7, "next");
        // all do as much
        WheelStand ends = new WheelStand();
        Sentence.fill(ends, UP, 10, 10, 10, 10, 10);
        ends.read(1, 0, -50);
        Sentence.due(ends, 0, "next");
    }

    private static WheelStand full() {
        WheelStand x = bent(50);
        for (int i = 0; i < 60; i++) {
            x.turn(4, i % 2 == 0 ? 1 : -1);
        }
        return x;
    }

    private static void fullIsNotAsked() {
        WheelStand x = full();
        Sentence.due(x, FULL, "turn", 0, -1);
        Sentence.due(x, 1, "next");
        dueFewest(x);
        x.read(1, 0, 40);
        dueFewest(x, 1, 0, -4);
        x.read(1, 6, -20);
        dueFewest(x, 2, 0, -4, 6, 2);
        x.read(1, 0, 0);
        x.read(1, 6, 0);
        dueFewest(x, 0);
        Sentence.due(x, 60, "count", 2);
    }

    private static void planAtMost() {
        for (int n : new int[] {1, 2, 4}) {
            WheelStand x = bent(50);
            Sentence.due(x, n, "plan", n);
            Sentence.due(x, n, "count", 2);
            Sentence.due(x, 50 - 10 * n, "reading", 1, 0);
        }
        WheelStand most = bent(9999);
        Sentence.due(most, 60, "plan", 60);
        Sentence.due(most, 9399, "reading", 1, 0);
    }

    private static void planAsLong() {
        WheelStand x = bent(50);
        Sentence.due(x, 5, "plan", 60);
        Sentence.due(x, 0, "reading", 1, 0);
        Sentence.due(x, 0, "plan", 1);
        Sentence.due(x, 5, "count", 2);
        // it ends as all are refused: each quarter adds 100 to the pull
        WheelStand y = bent(-90);
        y.limit(3, 1000000);
        Sentence.fill(y, PULL, 100);
        y.limit(4, 799);
        Sentence.due(y, 2, "plan", 60);
        Sentence.due(y, 700, "about", 0, 3);
    }

    private static void fewestByRim() {
        // up to the limit, 5, on either side, and not beyond it
        dueFewest(bent(0, 15), 1, 1, -1);
        dueFewest(bent(0, 16), 1, 1, -2);
        dueFewest(bent(0, -15), 1, 1, 1);
        dueFewest(bent(0, -16), 1, 1, 2);
        WheelStand x = bent();
        Sentence.fill(x, SIDE, 10);
        Sentence.fill(x, UP, 0);
        x.limit(0, 5);
        int[] read = {15, 16, -15, -16};
        int[] quarters = {-1, -2, 1, 2};
        for (int i = 0; i < 4; i++) {
            x.read(0, 2, read[i]);
            dueFewest(x, 1, 2, quarters[i]);
            x.read(0, 2, 0);
            // one that leans -1 goes the other way
            x.read(0, 3, read[i]);
            dueFewest(x, 1, 3, -quarters[i]);
            x.read(0, 3, 0);
        }
    }

    /** A quarter makes 40 of SIDE together, 5 of the MIDDLE. */
    private static void fewestByMiddle() {
        WheelStand x = new WheelStand();
        Sentence.fill(x, SIDE, 20, 10);
        x.limit(0, 1000);
        x.limit(2, 4);
        x.read(0, 0, 4);
        dueFewest(x, 0);
        x.read(0, 0, 9);
        dueFewest(x, 1, 0, -1);
        x.read(0, 0, 10);
        dueFewest(x, 1, 0, -2);
        x.read(0, 0, -9);
        dueFewest(x, 1, 0, 1);
        x.read(0, 0, -10);
        dueFewest(x, 1, 0, 2);
        x.read(0, 0, 44);
        dueFewest(x, 2, 0, -4, 1, 4);
        x.read(0, 0, 45);
        dueFewest(x);
        x.read(0, 0, -44);
        dueFewest(x, 2, 0, 4, 1, -4);
        x.read(0, 0, -45);
        dueFewest(x);
        // a SPOKE that leans 0 does nothing to it
        x.kind(0, 0);
        x.read(0, 0, -9);
        dueFewest(x, 1, 1, -1);
    }

    private static void fewestBySpread() {
        for (int spoke = 2; spoke < 4; spoke++) {
            int[] pulls = {370, 369, 340, 339, 280, 279, 630, 631, 660, 661, 720, 721};
            int[] quarters = {1, 2, 2, 3, 4, 0, -1, -2, -2, -3, -4, 0};
            for (int i = 0; i < pulls.length; i++) {
                WheelStand x = new WheelStand();
                Sentence.fill(x, PULL, 30);
                x.tune(spoke, pulls[i]);
                if (quarters[i] == 0) {
                    dueFewest(x);
                } else {
                    dueFewest(x, 1, spoke, quarters[i]);
                }
            }
        }
        WheelStand both = new WheelStand();
        Sentence.fill(both, PULL, 30);
        both.tune(2, 340);
        both.tune(3, 660);
        dueFewest(both, 2, 2, 2, 3, -2);
        both.limit(3, 99);
        dueFewest(both, 2, 2, 3, 3, -3);
        // two of one side: 410 and 520 are too far apart, 440 and 550, too
        WheelStand apart = new WheelStand();
        Sentence.fill(apart, PULL, 30);
        apart.tune(0, 380);
        apart.tune(6, 640);
        dueFewest(apart, 2, 0, 2, 6, -4);
        // the sides may pull far more, or less, than one another
        for (int side = 0; side < 2; side++) {
            WheelStand x = new WheelStand();
            Sentence.fill(x, PULL, 30);
            for (int s = side; s < 8; s += 2) {
                x.tune(s, 900);
            }
            x.tune(2 + side, 740);
            dueFewest(x, 1, 2 + side, 2);
            for (int s = side; s < 8; s += 2) {
                x.tune(s, 100);
            }
            x.tune(2 + side, 260);
            dueFewest(x, 1, 2 + side, -2);
        }
    }

    private static void fewestByLoose() {
        int[] pulls = {-1, -30, -31, -120, -121};
        int[] quarters = {1, 1, 2, 4, 0};
        for (int i = 0; i < pulls.length; i++) {
            WheelStand x = new WheelStand();
            Sentence.fill(x, PULL, 30);
            x.limit(3, 1000);
            x.tune(7, pulls[i]);
            if (quarters[i] == 0) {
                dueFewest(x);
            } else {
                dueFewest(x, 1, 7, quarters[i]);
                x.tune(6, -120);
                dueFewest(x, 2, 6, 4, 7, quarters[i]);
            }
            // one that is gone is not LOOSE
            x.tune(6, 500);
            x.snap(7);
            dueFewest(x, 0);
        }
    }

    private static void fewestNone() {
        dueFewest(new WheelStand(), 0);
        dueFewest(bent(5, -5), 0);
        // one turn could better it, but none is needed; nor is it asked whether turns are refused
        WheelStand x = bent(5);
        x.limit(4, 1);
        dueFewest(x, 0);
        for (int s = 0; s < 8; s++) {
            x.snap(s);
        }
        dueFewest(x, 0);
        x.read(1, 0, 6);
        dueFewest(x);
    }

    private static void fewestOne() {
        dueFewest(bent(6), 1, 0, -1);
        dueFewest(bent(-6), 1, 0, 1);
        dueFewest(bent(0, 0, 0, 0, 0, 0, 0, 45), 1, 7, -4);
        dueFewest(bent(0, 0, 0, 0, 0, 0, 0, -45), 1, 7, 4);
        dueFewest(bent(46));
        dueFewest(bent(-46));
        WheelStand last = new WheelStand();
        last.wheel(32);
        Sentence.fill(last, UP, 40);
        last.read(1, 31, -240);
        last.read(1, 30, 0);
        last.read(1, 0, 0);
        dueFewest(last, 1, 31, 4);
    }

    private static void fewestTwo() {
        dueFewest(bent(6, 0, 0, 0, 0, 0, 0, -6), 2, 0, -1, 7, 1);
        dueFewest(bent(0, 0, 0, 0, 0, 0, 45, -45), 2, 6, -4, 7, 4);
        dueFewest(bent(0, 0, 0, 0, 0, 0, 45, -46));
        dueFewest(bent(0, 0, 0, 0, 0, 0, -45, 46));
        dueFewest(bent(0, 0, 0, 0, 0, 0, 46, -45));
        dueFewest(bent(0, 0, 0, 0, 0, 0, -46, 45));
        // three are too many
        dueFewest(bent(6, 6, 6));
        // of one SPOKE there are no more than four, though it be turned twice
        dueFewest(bent(0, 0, 80));
        // on the greatest wheel, the last two and none; and on a small one that was a great one
        WheelStand great = new WheelStand();
        great.wheel(32);
        Sentence.fill(great, UP, 40);
        great.read(1, 29, 0);
        great.read(1, 30, 260);
        great.read(1, 31, -260);
        great.read(1, 0, 0);
        dueFewest(great, 2, 30, -4, 31, 4);
        great.read(1, 31, -261);
        dueFewest(great);
        great.wheel(8);
        great.read(1, 0, 0);
        great.read(1, 7, 261);
        great.read(1, 6, 0);
        dueFewest(great);
        great.read(1, 7, 260);
        dueFewest(great, 1, 7, -4);
    }

    private static void fewestLeastS() {
        // UP all round alike: any one does
        WheelStand x = new WheelStand();
        Sentence.fill(x, UP, 60, 60, 60, 60, 60);
        x.read(1, 0, 110);
        dueFewest(x, 1, 0, -1);
        x.snap(0);
        dueFewest(x, 1, 1, -1);
        // more quarters of a lesser one go first
        WheelStand y = new WheelStand();
        Sentence.fill(y, UP, 40, 20);
        y.read(1, 3, 139);
        y.read(1, 2, 0);
        y.read(1, 4, 0);
        dueFewest(y, 1, 2, -2);
        // of two: any two do
        WheelStand z = new WheelStand();
        Sentence.fill(z, UP, 10, 10, 10, 10, 10);
        z.read(1, 0, 180);
        dueFewest(z, 2, 0, -4, 1, -4);
        z.snap(0);
        z.snap(2);
        dueFewest(z, 2, 1, -4, 3, -4);
    }

    private static void fewestNearest() {
        // -1 to -4 all do
        WheelStand x = new WheelStand();
        x.read(1, 0, 101);
        Sentence.fill(x, UP, 10, 10, 10, 10, 10);
        dueFewest(x, 1, 0, -1);
        x.read(1, 0, -120);
        dueFewest(x, 1, 0, 2);
        x.read(1, 0, -121);
        dueFewest(x, 1, 0, 3);
        // of two: s by as few as will do with the most of t
        x.read(1, 0, 141);
        dueFewest(x, 2, 0, -1, 1, -4);
        x.read(1, 0, 160);
        dueFewest(x, 2, 0, -2, 1, -4);
    }

    /** Spoke 0 alone does not do; 1 back it does with 1 back of spoke 1, 1 on with 1 on of spoke 7. */
    private static void fewestAboveZero() {
        WheelStand x = bent(0, 2, 0, 1, 1, 0, 0, -2);
        Sentence.fill(x, UP, 2, -1);
        x.limit(1, 1);
        dueFewest(x, 2, 0, 1, 7, 1);
        x.snap(7);
        dueFewest(x, 2, 0, -1, 1, -1);
    }

    private static void fewestThenT() {
        // 1 and 7 do for 0, 2 and 4 for 3: each of them by 1, 2 or 3 quarters
        WheelStand x = bent(16, 0, 0, 16);
        Sentence.fill(x, UP, 0, 10);
        x.limit(1, 15);
        dueFewest(x, 2, 1, -1, 2, -1);
        x.snap(2);
        dueFewest(x, 2, 1, -1, 4, -1);
        x.snap(1);
        dueFewest(x, 2, 4, -1, 7, -1);
        // t by 2, 3 or 4 does, by 1 it does not
        WheelStand y = bent(16, 0, 0, 0, 0, 0, 0, -26);
        y.limit(1, 15);
        dueFewest(y, 2, 0, -1, 7, 2);
        y.read(1, 7, 36);
        dueFewest(y, 2, 0, -1, 7, -3);
    }

    private static void fewestRefused() {
        WheelStand x = bent(-20);
        Sentence.fill(x, PULL, 50);
        x.limit(3, 1000);
        x.limit(4, 600);
        dueFewest(x, 1, 0, 2);
        x.limit(4, 599);
        dueFewest(x);
        // another spoke is taken instead
        WheelStand y = bent(-11);
        y.limit(1, 10);
        Sentence.fill(y, UP, 10, 5);
        Sentence.fill(y, PULL, 50);
        y.limit(3, 1000);
        dueFewest(y, 1, 0, 1);
        y.tune(0, 951);
        dueFewest(y, 1, 1, 1);
        // the second of two is refused, too, if some pull is above the limit then
        WheelStand z = bent(-10, 0, 0, -10);
        Sentence.fill(z, PULL, 50);
        z.limit(3, 1000);
        z.tune(3, 950);
        dueFewest(z, 2, 0, 1, 3, 1);
        z.tune(3, 951);
        dueFewest(z);
        z.snap(3);
        dueFewest(z);
        // the last one of the greatest wheel
        WheelStand last = new WheelStand();
        last.wheel(32);
        last.read(1, 30, 0);
        last.read(1, 31, -101);
        last.read(1, 0, 0);
        Sentence.fill(last, UP, 10);
        Sentence.fill(last, PULL, 50);
        last.limit(4, 550);
        dueFewest(last, 1, 31, 1);
        last.limit(4, 549);
        dueFewest(last);
    }

    private static void fewestInOrder() {
        // 2 raises its own pull, 3 would lower it again, but comes behind it
        WheelStand x = bent(0, 0, -10, 10);
        Sentence.fill(x, PULL, 50);
        Sentence.fill(x, OTHER, 0, 50);
        x.limit(4, 550);
        dueFewest(x, 2, 2, 1, 3, -1);
        x.limit(4, 549);
        dueFewest(x);
        // the other way 2 lowers that of 3 first, which 3 raises then
        WheelStand y = bent(0, 0, 10, -10);
        Sentence.fill(y, PULL, 50);
        Sentence.fill(y, OTHER, 0, 50);
        y.limit(4, 500);
        y.tune(4, 450);
        dueFewest(y, 2, 2, -1, 3, 1);
    }

    private static void logAtMost() {
        WheelStand x = new WheelStand();
        Sentence.fill(x, UP, 1);
        for (int i = 0; i < 60; i++) {
            Sentence.due(x, 500, "turn", i % 8, 1);
            Sentence.due(x, i + 1, "count", 2);
        }
        Sentence.due(x, FULL, "turn", 0, 1);
        Sentence.due(x, 60, "count", 2);
        Sentence.due(x, 8, "reading", 1, 0);
        Sentence.due(x, 3, "log", 59, 0);
        Sentence.due(x, NONE, "log", 60, 0);
        // none is thrown out at the other end
        Sentence.due(x, 0, "log", 0, 0);
        x.undo();
        Sentence.due(x, 500, "turn", 7, -100);
        Sentence.due(x, -100, "log", 59, 1);
        Sentence.due(x, FULL, "turn", 7, -100);
        x.wheel(8);
        Sentence.due(x, 500, "turn", 7, -100);
    }

    private static void logHas() {
        WheelStand x = bent(20);
        x.turn(7, 100);
        x.turn(0, -100);
        x.turn(9, 1);
        x.turn(0, 0);
        x.snap(3);
        x.turn(3, 1);
        x.undo();
        x.turn(2, 5);
        int[][] due = {{7, 100}, {2, 5}};
        for (int i = 0; i < 2; i++) {
            Sentence.due(x, due[i][0], "log", i, 0);
            Sentence.due(x, due[i][1], "log", i, 1);
        }
        Sentence.due(x, NONE, "log", 2, 0);
        WheelStand y = bent(0, -20);
        y.plan(60);
        Sentence.due(y, 2, "count", 2);
        Sentence.due(y, 1, "log", 1, 0);
        Sentence.due(y, 1, "log", 1, 1);
    }

    private static void takenBack() {
        WheelStand x = bent();
        Sentence.fill(x, SIDE, 3, 2);
        Sentence.fill(x, PULL, 4, 0, 5);
        Sentence.fill(x, OTHER, 0, 6);
        x.limit(4, 1000000);
        x.turn(0, 100);
        x.turn(7, -100);
        Sentence.due(x, 1, "undo");
        Sentence.due(x, 300, "reading", 0, 0);
        Sentence.due(x, 200, "reading", 0, 7);
        Sentence.due(x, 0, "reading", 1, 7);
        Sentence.due(x, 1100, "about", 7, 3);
        Sentence.due(x, 0, "undo");
        for (int i = 0; i < 8; i++) {
            Sentence.due(x, 0, "reading", 0, i);
            Sentence.due(x, 0, "reading", 1, i);
            Sentence.due(x, 500, "about", i, 3);
        }
        // what was tuned meanwhile stays so, but for the turn
        WheelStand y = bent();
        Sentence.fill(y, PULL, 4);
        y.turn(0, 10);
        y.tune(0, 7);
        y.undo();
        Sentence.due(y, -33, "about", 0, 3);
    }

    private static void takenBackWhateverPulls() {
        WheelStand x = new WheelStand();
        Sentence.fill(x, PULL, 100);
        x.turn(0, -10);
        x.limit(4, 1);
        Sentence.due(x, NO, "turn", 0, 10);
        Sentence.due(x, 0, "undo");
        Sentence.due(x, 500, "about", 0, 3);
        WheelStand y = new WheelStand();
        Sentence.fill(y, PULL, 1000);
        y.turn(0, -100);
        y.tune(0, 100000);
        Sentence.due(y, 0, "undo");
        Sentence.due(y, 200000, "about", 0, 3);
        // nor is below 0 asked
        WheelStand z = new WheelStand();
        Sentence.fill(z, PULL, 5);
        z.turn(0, 100);
        z.tune(0, 0);
        Sentence.due(z, 0, "undo");
        Sentence.due(z, -500, "about", 0, 3);
    }

    private static void takenBackKindsNow() {
        int[] side = {-10, 0, -20, -30, 0, 0};
        int[] up = {0, 0, 0, 10, 0, 0};
        for (int kind : new int[] {0, 1, 2, 3, 5}) {
            WheelStand x = new WheelStand();
            Sentence.fill(x, SIDE, 5);
            Sentence.fill(x, UP, 5);
            x.turn(0, -2);
            x.kind(0, kind);
            Sentence.due(x, 0, "undo");
            Sentence.due(x, side[kind], "reading", 0, 0);
            Sentence.due(x, up[kind], "reading", 1, 0);
        }
        // the kinds of others count, too, and one that was put anew meanwhile
        WheelStand y = new WheelStand();
        Sentence.fill(y, PULL, 1, 2);
        Sentence.fill(y, OTHER, 0, 7);
        y.turn(0, 10);
        y.kind(1, 1);
        y.snap(7);
        y.undo();
        Sentence.due(y, 570 - 20, "about", 1, 3);
        Sentence.due(y, 0, "about", 7, 3);
        WheelStand z = new WheelStand();
        Sentence.fill(z, UP, 5);
        z.turn(0, 10);
        z.snap(0);
        z.anew(0, 3, 5);
        z.undo();
        Sentence.due(z, 50 - 100, "reading", 1, 0);
    }

    private static void takenBackGone() {
        WheelStand x = bent();
        Sentence.fill(x, SIDE, 3, 1);
        Sentence.fill(x, PULL, 4, 1, 1);
        Sentence.fill(x, OTHER, 4, 1, 1);
        x.turn(0, 10);
        x.snap(0);
        Sentence.due(x, 0, "undo");
        Sentence.due(x, 30, "reading", 0, 0);
        Sentence.due(x, 100, "reading", 1, 0);
        Sentence.due(x, 0, "about", 0, 3);
        for (int j : new int[] {1, 2, 6, 7}) {
            Sentence.due(x, 510, "about", j, 3);
        }
    }

    private static void takenBackLeaves() {
        WheelStand x = bent();
        x.turn(0, 10);
        x.turn(1, 20);
        x.snap(1);
        Sentence.due(x, 1, "undo");
        Sentence.due(x, NONE, "log", 1, 0);
        Sentence.due(x, 0, "log", 0, 0);
        Sentence.due(x, 10, "count", 3);
        Sentence.due(x, 0, "undo");
        Sentence.due(x, NONE, "log", 0, 0);
        Sentence.due(x, 0, "count", 3);
        Sentence.due(x, NO, "undo");
    }
}
