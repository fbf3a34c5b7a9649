/** The terms' part 2, the rim as it is unbent, readings, limits, and division: sentences that name a boundary case. */
public final class TermsRimTest {
    private static final int NONE = Sentence.NONE;
    private static final int NOT_READ = -10000;

    public static void main(String[] args) {
        Sentence.says("terms", "/ cuts towards below (floor)", TermsRimTest::towardsBelow);
        Sentence.says("terms 2", "two rows, 0 sideways, 1 up, of N readings, -9999 .. 9999, or NOT READ (all at first)", TermsRimTest::allNotReadAtFirst);
        Sentence.says("terms 2", "the nearest read ones behind it and ahead of it, a at i steps behind, b at k steps ahead", TermsRimTest::between);
        Sentence.says("terms 2", "(both ways round", TermsRimTest::betweenRound);
        Sentence.says("terms 2", "they may be the same one)", TermsRimTest::theSameOne);
        Sentence.says("terms 2", "(a * k + b * i) / (i + k)", TermsRimTest::farBetween);
        Sentence.says("terms 2", "0, if none is read", TermsRimTest::noneRead);
        Sentence.says("terms 2", "The READING at a place is that, and all that turns made there.", TermsRimTest::readingOfBoth);
        Sentence.says("terms 2", "The PULL of a SPOKE: what it had first, and all that turns, breaks and anew made.", TermsRimTest::pullOfAll);
        Sentence.says("terms 2", "MIDDLE: all SIDE readings together / N.", TermsRimTest::middle);
        Sentence.says("terms 2", "SPREAD, of SPOKES that LEAN alike (1 or -1): the greatest PULL less the least one", TermsRimTest::spread);
        Sentence.says("terms 2, all PULLS on one side of 0", "the greatest PULL less the least one", TermsRimTest::spreadBelowNought);
        Sentence.says("terms 2", "0 with none", TermsRimTest::spreadOfNone);
        Sentence.says("terms 2", "1 .. 1000000 each (100 at first, the last 1000)", TermsRimTest::limits);
        Sentence.says("terms 2, SIDE", "no SIDE, UP, MIDDLE is of a size above LIMITS 0, 1, 2", TermsRimTest::sideWithin);
        Sentence.says("terms 2, UP", "no SIDE, UP, MIDDLE is of a size above LIMITS 0, 1, 2", TermsRimTest::upWithin);
        Sentence.says("terms 2, MIDDLE", "no SIDE, UP, MIDDLE is of a size above LIMITS 0, 1, 2", TermsRimTest::middleWithin);
        Sentence.says("terms 2", "no SPREAD above LIMIT 3", TermsRimTest::spreadWithin);
        Sentence.says("terms 2", "no PULL of a SPOKE that is not GONE below 0 (that is LOOSE)", TermsRimTest::loose);
        Sentence.says("terms 2, LIMIT 4 is not asked", "IT IS WITHIN if", TermsRimTest::limitOfPullsIsNotAsked);
        Sentence.says("terms 2", "WORST: the greatest of 1000 * v / LIMIT", TermsRimTest::worstOfEach);
        Sentence.says("terms 2", "v being sizes of SIDE, UP, MIDDLE and the SPREADS, each with its LIMIT", TermsRimTest::worstBySizes);
        Sentence.says("terms 2", "1000000000, if that is more", TermsRimTest::worstAtMost);
        Sentence.end();
    }

    private static WheelStand flat(int holes) {
        WheelStand x = new WheelStand();
        x.wheel(holes);
        for (int place = 0; place < holes; place++) {
            x.read(0, place, 0);
            x.read(1, place, 0);
        }
        return x;
    }

    private static void towardsBelow() {
        WheelStand x = flat(8);
        x.read(0, 1, NOT_READ);
        x.read(0, 0, -1);
        Sentence.due(x, -1, "unbent", 0, 1);
        Sentence.due(x, -1, "state", 0);
        x.read(0, 0, 1);
        Sentence.due(x, 0, "unbent", 0, 1);
        Sentence.due(x, 0, "state", 0);
        WheelStand y = new WheelStand();
        Sentence.fill(y, 4, 0, 1, -1);
        Sentence.fill(y, 5, 0, 1, -1);
        Sentence.due(y, 500, "loaded", 999, 0, 1);
        Sentence.due(y, 501, "loaded", 1, 0, 2);
        Sentence.due(y, 499, "loaded", 1000, 0, 1);
        Sentence.due(y, 501, "loaded", 1000, 0, 2);
        Sentence.due(y, 502, "loaded", 1001, 0, 2);
        y.snap(0);
        Sentence.due(y, 500, "about", 1, 3);
        Sentence.due(y, 499, "about", 2, 3);
    }

    private static void allNotReadAtFirst() {
        for (int holes : new int[] {8, 16, 32}) {
            WheelStand x = new WheelStand();
            x.wheel(holes);
            for (int row = 0; row < 2; row++) {
                Sentence.due(x, 0, "count", 4 + row);
                for (int place = 0; place < holes; place++) {
                    Sentence.due(x, NOT_READ, "read", row, place, place % 2 == 0 ? 9999 : -9999);
                }
                Sentence.due(x, holes, "count", 4 + row);
            }
        }
    }

    private static void dueUnbent(WheelStand x, int row, int... want) {
        for (int place = 0; place < want.length; place++) {
            Sentence.due(x, want[place], "unbent", row, place);
        }
    }

    private static void between() {
        WheelStand x = new WheelStand();
        x.read(0, 0, 0);
        x.read(0, 4, 40);
        x.read(0, 7, 100);
        dueUnbent(x, 0, 0, 10, 20, 30, 40, 60, 80, 100);
        // a nearer one is taken as soon as it is read, and the far one again as it is not
        x.read(0, 2, -10);
        dueUnbent(x, 0, 0, -5, -10, 15, 40, 60, 80, 100);
        x.read(0, 2, NOT_READ);
        dueUnbent(x, 0, 0, 10, 20, 30, 40, 60, 80, 100);
        dueUnbent(x, 1, 0, 0, 0, 0, 0, 0, 0, 0);
    }

    private static void betweenRound() {
        WheelStand x = new WheelStand();
        x.read(1, 1, 20);
        x.read(1, 6, 10);
        dueUnbent(x, 1, 16, 20, 18, 16, 14, 12, 10, 13);
        WheelStand y = new WheelStand();
        y.wheel(16);
        y.read(0, 15, -7);
        y.read(0, 1, 8);
        // (-7 * 1 + 8 * 1) / 2
        Sentence.due(y, 0, "unbent", 0, 0);
        // ahead of 1 round to 15 there are 14: (8 * 13 + -7 * 1) / 14
        Sentence.due(y, 6, "unbent", 0, 2);
        Sentence.due(y, -6, "unbent", 0, 14);
    }

    private static void theSameOne() {
        for (int holes : new int[] {8, 16, 32}) {
            for (int at : new int[] {0, 1, holes - 1}) {
                WheelStand x = new WheelStand();
                x.wheel(holes);
                x.read(0, at, -9999);
                x.read(1, at, 9999);
                for (int place = 0; place < holes; place++) {
                    Sentence.due(x, -9999, "unbent", 0, place);
                    Sentence.due(x, 9999, "unbent", 1, place);
                }
            }
        }
    }

    private static void farBetween() {
        WheelStand x = new WheelStand();
        x.wheel(32);
        x.read(0, 5, -9999);
        x.read(0, 6, 9999);
        // between 6 and 5, 31 steps on: at 7 (9999 * 30 - 9999 * 1) / 31, at 4 (9999 * 1 - 9999 * 30) / 31
        Sentence.due(x, 9353, "unbent", 0, 7);
        Sentence.due(x, -9354, "unbent", 0, 4);
        Sentence.due(x, 322, "unbent", 0, 21);
        Sentence.due(x, -323, "unbent", 0, 22);
        WheelStand y = new WheelStand();
        y.read(0, 0, -1);
        y.read(0, 2, 0);
        dueUnbent(y, 0, -1, -1, 0, -1, -1, -1, -1, -1);
    }

    private static void noneRead() {
        WheelStand x = new WheelStand();
        dueUnbent(x, 0, 0, 0, 0, 0, 0, 0, 0, 0);
        x.read(1, 3, 5);
        dueUnbent(x, 0, 0, 0, 0, 0, 0, 0, 0, 0);
        x.read(1, 3, NOT_READ);
        dueUnbent(x, 1, 0, 0, 0, 0, 0, 0, 0, 0);
        Sentence.due(x, 0, "state", 0);
    }

    private static void readingOfBoth() {
        WheelStand x = new WheelStand();
        Sentence.fill(x, 0, 1000);
        Sentence.fill(x, 1, -1000);
        x.read(0, 0, 9999);
        x.read(1, 0, -9999);
        x.turn(0, 100);
        // beyond what can be read
        Sentence.due(x, 109999, "reading", 0, 0);
        Sentence.due(x, -109999, "reading", 1, 0);
        Sentence.due(x, 9999, "reading", 0, 4);
        Sentence.due(x, 9999, "unbent", 0, 0);
        // a place that is not read has what lies between, and its turns
        x.turn(4, -1);
        Sentence.due(x, 8999, "reading", 0, 4);
        // what turns made is no reading: it does not tell in what lies between
        Sentence.due(x, 9999, "reading", 0, 3);
        x.read(0, 0, NOT_READ);
        Sentence.due(x, 100000, "reading", 0, 0);
        Sentence.due(x, -1000, "reading", 0, 4);
    }

    private static void pullOfAll() {
        WheelStand x = new WheelStand();
        Sentence.fill(x, 2, 10);
        Sentence.fill(x, 4, 0, 100);
        x.turn(1, 3);
        Sentence.due(x, 530, "about", 1, 3);
        x.snap(0);
        Sentence.due(x, 580, "about", 1, 3);
        x.turn(1, -1);
        Sentence.due(x, 570, "about", 1, 3);
        x.snap(1);
        Sentence.due(x, 0, "about", 1, 3);
        Sentence.due(x, 557, "about", 2, 3);
        x.anew(1, 1, 70);
        x.turn(1, 1);
        Sentence.due(x, 80, "about", 1, 3);
    }

    private static void middle() {
        for (int holes : new int[] {8, 16, 32}) {
            WheelStand x = flat(holes);
            int[] sums = {0, 1, holes - 1, holes, holes + 1, -1, -holes + 1, -holes, -holes - 1};
            int[] due = {0, 0, 0, 1, 1, -1, -1, -1, -2};
            for (int i = 0; i < sums.length; i++) {
                x.read(0, holes - 1, sums[i]);
                Sentence.due(x, due[i], "state", 0);
            }
            x.read(1, 0, 9999);
            Sentence.due(x, -2, "state", 0);
        }
        // one that is not read counts as what lies between
        WheelStand y = new WheelStand();
        y.read(0, 3, -9999);
        Sentence.due(y, -9999, "state", 0);
        // what turns made counts
        WheelStand z = new WheelStand();
        Sentence.fill(z, 0, 1, 0, 0, 0, 6);
        z.turn(0, 1);
        Sentence.due(z, 0, "state", 0);
        z.turn(2, 1);
        Sentence.due(z, 1, "state", 0);
        z.turn(1, 3);
        Sentence.due(z, -1, "state", 0);
    }

    private static void spread() {
        WheelStand x = new WheelStand();
        x.tune(0, -100000);
        x.tune(6, 100000);
        x.tune(7, 499);
        Sentence.due(x, 200000, "state", 1);
        Sentence.due(x, 1, "state", 2);
        // those that lean to no side are of neither
        x.kind(6, 0);
        Sentence.due(x, 100500, "state", 1);
        Sentence.due(x, 1, "state", 2);
        // THICK ones lean as RIGHT ones do, STRAIGHT ones as LEFT ones
        x.kind(6, 3);
        Sentence.due(x, 99501, "state", 2);
        x.kind(6, 5);
        Sentence.due(x, 200000, "state", 1);
        x.snap(0);
        Sentence.due(x, 99500, "state", 1);
    }

    private static void spreadBelowNought() {
        for (int sign : new int[] {1, -1}) {
            WheelStand x = new WheelStand();
            for (int s = 0; s < 8; s++) {
                x.tune(s, sign * (1000 + 10 * s));
            }
            Sentence.due(x, 60, "state", 1);
            Sentence.due(x, 60, "state", 2);
            // the one that is left is as far from itself as none is
            for (int s = 2; s < 8; s++) {
                x.kind(s, 0);
            }
            Sentence.due(x, 0, "state", 1);
            Sentence.due(x, 0, "state", 2);
        }
    }

    private static void spreadOfNone() {
        WheelStand x = new WheelStand();
        for (int s = 0; s < 8; s++) {
            x.tune(s, 100 * s - 300);
            x.kind(s, 0);
        }
        Sentence.due(x, 0, "state", 1);
        Sentence.due(x, 0, "state", 2);
        x.kind(7, 2);
        Sentence.due(x, 0, "state", 2);
        x.kind(6, 3);
        Sentence.due(x, 100, "state", 2);
        for (int s = 0; s < 8; s++) {
            x.snap(s);
        }
        Sentence.due(x, 0, "state", 1);
        Sentence.due(x, 0, "state", 2);
        Sentence.due(x, 0, "state", 3);
        Sentence.due(x, 1, "state", 5);
    }

    private static void limits() {
        for (int which = 0; which < 5; which++) {
            WheelStand x = new WheelStand();
            Sentence.due(x, Sentence.BAD, "limit", which, 0);
            Sentence.due(x, Sentence.BAD, "limit", which, 1000001);
            Sentence.due(x, which == 4 ? 1000 : 100, "limit", which, 1000000);
            Sentence.due(x, 1000000, "limit", which, 1);
        }
    }

    private static void dueWithin(WheelStand x, int why) {
        Sentence.due(x, why, "why");
        Sentence.due(x, why == NONE ? 1 : 0, "state", 5);
    }

    private static void sideWithin() {
        for (int way = -1; way <= 1; way += 2) {
            WheelStand x = flat(8);
            x.read(0, 7, way * 100);
            dueWithin(x, NONE);
            x.read(0, 7, way * 101);
            dueWithin(x, 7);
            x.limit(0, 101);
            dueWithin(x, NONE);
        }
    }

    private static void upWithin() {
        for (int way = -1; way <= 1; way += 2) {
            WheelStand x = flat(8);
            x.read(1, 7, way * 100);
            dueWithin(x, NONE);
            x.read(1, 7, way * 101);
            dueWithin(x, 107);
            x.limit(1, 101);
            dueWithin(x, NONE);
        }
    }

    private static void middleWithin() {
        for (int way = -1; way <= 1; way += 2) {
            WheelStand x = new WheelStand();
            x.limit(0, 1000000);
            x.read(0, 0, way * 100);
            dueWithin(x, NONE);
            x.read(0, 0, way * 101);
            dueWithin(x, 200);
            x.limit(2, 101);
            dueWithin(x, NONE);
        }
        // 8 times 100 and 7 more are 100 yet; 8 times -100 and 1 less are -101
        WheelStand y = new WheelStand();
        y.limit(0, 1000);
        for (int place = 0; place < 8; place++) {
            y.read(0, place, 100);
        }
        y.read(0, 0, 107);
        dueWithin(y, NONE);
        for (int place = 0; place < 8; place++) {
            y.read(0, place, -100);
        }
        y.read(0, 0, -101);
        dueWithin(y, 200);
    }

    private static void spreadWithin() {
        for (int spoke = 0; spoke < 2; spoke++) {
            WheelStand x = new WheelStand();
            x.tune(spoke, 600);
            dueWithin(x, NONE);
            x.tune(spoke, 601);
            dueWithin(x, 300 + spoke);
            x.limit(3, 101);
            dueWithin(x, NONE);
            x.tune(spoke, 398);
            dueWithin(x, 300 + spoke);
            x.tune(spoke, 399);
            dueWithin(x, NONE);
        }
        // between those that do not lean alike there is none
        WheelStand y = new WheelStand();
        for (int s = 0; s < 8; s += 2) {
            y.tune(s, 100000);
        }
        dueWithin(y, NONE);
    }

    private static void loose() {
        WheelStand x = new WheelStand();
        x.limit(3, 1000000);
        x.tune(7, 0);
        dueWithin(x, NONE);
        Sentence.due(x, 0, "state", 4);
        x.tune(7, -1);
        dueWithin(x, 407);
        Sentence.due(x, 1, "state", 4);
        x.snap(7);
        dueWithin(x, NONE);
        Sentence.due(x, 0, "state", 4);
        // one that leans to no side can be loose, too
        x.kind(6, 0);
        x.tune(6, -1);
        dueWithin(x, 406);
    }

    private static void limitOfPullsIsNotAsked() {
        WheelStand x = new WheelStand();
        x.limit(4, 1);
        dueWithin(x, NONE);
        Sentence.due(x, 0, "state", 3);
        x.limit(3, 1000000);
        x.tune(0, 100000);
        dueWithin(x, NONE);
    }

    private static void worstOfEach() {
        WheelStand side = flat(8);
        side.limit(0, 7);
        side.read(0, 7, 1);
        Sentence.due(side, 142, "state", 3);
        WheelStand up = flat(8);
        up.limit(1, 7);
        up.read(1, 7, 1);
        Sentence.due(up, 142, "state", 3);
        WheelStand middle = flat(8);
        middle.limit(0, 1000000);
        middle.limit(2, 7);
        middle.read(0, 7, 8);
        Sentence.due(middle, 142, "state", 3);
        for (int spoke = 6; spoke < 8; spoke++) {
            WheelStand spread = new WheelStand();
            spread.limit(3, 7);
            spread.tune(spoke, 501);
            Sentence.due(spread, 142, "state", 3);
        }
        // the greatest of them, whichever it is; a PULL, and how loose one is, does not count
        WheelStand all = flat(8);
        all.read(0, 0, 10);
        all.read(1, 1, 20);
        Sentence.due(all, 200, "state", 3);
        all.tune(0, 530);
        Sentence.due(all, 300, "state", 3);
        all.tune(1, 540);
        Sentence.due(all, 400, "state", 3);
        all.kind(4, 0);
        all.tune(4, -100000);
        Sentence.due(all, 400, "state", 3);
        all.read(0, 0, 50);
        Sentence.due(all, 500, "state", 3);
    }

    private static void worstBySizes() {
        WheelStand x = flat(8);
        x.limit(0, 3);
        x.read(0, 0, -1);
        // 1000 * 1 / 3, not that of -1 cut towards below
        Sentence.due(x, 333, "state", 3);
        WheelStand y = flat(8);
        y.limit(1, 3);
        y.read(1, 0, -1);
        Sentence.due(y, 333, "state", 3);
        WheelStand z = flat(8);
        z.limit(0, 1000000);
        z.limit(2, 3);
        z.read(0, 0, -1);
        // the MIDDLE is -1
        Sentence.due(z, 333, "state", 3);
    }

    /** Spoke 0 is turned back until it pulls 1000000 less than the others. */
    private static void worstAtMost() {
        WheelStand x = new WheelStand();
        Sentence.fill(x, 2, 1000);
        x.limit(3, 1);
        for (int i = 0; i < 10; i++) {
            x.turn(0, -100);
        }
        Sentence.due(x, 1000000, "state", 1);
        Sentence.due(x, 1000000000, "state", 3);
        x.tune(2, 501);
        Sentence.due(x, 1000001, "state", 1);
        Sentence.due(x, 1000000000, "state", 3);
        for (int s = 2; s < 8; s += 2) {
            x.tune(s, 499);
        }
        Sentence.due(x, 999999, "state", 1);
        Sentence.due(x, 999999000, "state", 3);
        // above the most a quarter that betters the spread does not better WORST
        Sentence.due(x, 0, "next");
        x.turn(0, -2);
        Sentence.due(x, 1001999, "state", 1);
        Sentence.due(x, NONE, "next");
        x.limit(3, 2);
        Sentence.due(x, 500999500, "state", 3);
        Sentence.due(x, 0, "next");
    }
}
