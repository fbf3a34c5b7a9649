/** The terms' part 5, lacing: sentences that name a boundary case. */
public final class TermsLacingTest {
    private static final int BAD = Sentence.BAD;

    public static void main(String[] args) {
        Sentence.says("terms 5", "flanges have radius r (1 .. 200), stand off o (0 .. 200); the rim radius R (1 .. 1000); SPOKES cross c others (0 .. 7", TermsLacingTest::ranges);
        Sentence.says("terms 5", "STRAIGHT ones 0", TermsLacingTest::straight);
        Sentence.says("terms 5", "h = 2 * c * 64 / N steps (of 64 to a round) ahead of its rim hole", TermsLacingTest::ahead);
        Sentence.says("terms 5", "if s / 2 is even, else as much behind", TermsLacingTest::behind);
        Sentence.says("terms 5", "the greatest whole number whose square is not above", TermsLacingTest::wholeRoots);
        Sentence.says("terms 5, towards below", "200 * R * r * COS(h) / 1024", TermsLacingTest::cutTowardsBelow);
        Sentence.says("terms 5", "(at least 0)", TermsLacingTest::atLeastZero);
        Sentence.says("terms 5", "SIN(32 - k) = SIN(k); SIN(- k) = - SIN(k)", TermsLacingTest::cosines);
        Sentence.says("terms 5", "the same after 64", TermsLacingTest::afterARound);
        Sentence.says("terms 5", "Two SPOKES s, t of like LEAN (1 or -1) CROSS", TermsLacingTest::likeLean);
        Sentence.says("terms 5", "with w as the steps (1 .. 63, of 64) from the rim hole of s (s * 64 / N) round to that of t (t * 64 / N)", TermsLacingTest::round);
        Sentence.says("terms 5", "if w + y - x is below 0", TermsLacingTest::belowZero);
        Sentence.says("terms 5", "or above 64", TermsLacingTest::above64);
        Sentence.end();
    }

    private static WheelStand laced(int holes, int r, int o, int rim, int c) {
        WheelStand x = new WheelStand();
        x.wheel(holes);
        Sentence.due(x, 0, "lace", r, o, rim, c);
        return x;
    }

    private static void ranges() {
        WheelStand x = new WheelStand();
        int[][] good = {{1, 0, 1, 0}, {200, 0, 1, 0}, {1, 200, 1, 0}, {1, 0, 1000, 0}, {1, 0, 1, 7}, {200, 200, 1000, 7}};
        for (int[] a : good) {
            Sentence.due(x, 0, "lace", a);
        }
        int length = x.length(0);
        int[][] bad = {{0, 0, 1, 0}, {201, 0, 1, 0}, {1, -1, 1, 0}, {1, 201, 1, 0}, {1, 0, 0, 0}, {1, 0, 1001, 0}, {1, 0, 1, -1}, {1, 0, 1, 8}};
        for (int[] a : bad) {
            Sentence.due(x, BAD, "lace", a);
            Sentence.due(x, length, "length", 0);
            Sentence.due(x, 48, "hub", 0);
        }
        // the longest and the shortest that there can be
        Sentence.due(laced(8, 200, 200, 1000, 2), 12165, "length", 0);
        Sentence.due(laced(8, 1, 0, 1, 0), 0, "length", 0);
    }

    private static void straight() {
        for (int s : new int[] {0, 1, 2, 3, 30, 31}) {
            WheelStand x = laced(32, 30, 40, 300, 7);
            int rim = 2 * s;
            Sentence.due(x, (rim + (s / 2 % 2 == 0 ? 28 : 36)) % 64, "hub", s);
            x.kind(s, 5);
            Sentence.due(x, rim, "hub", s);
            Sentence.due(x, 2729, "length", s);
            // LEFT and RIGHT ones are laced alike, and so are SPOKES, THICK ones and those that are gone
            for (int kind = 0; kind < 4; kind++) {
                x.kind(s, kind);
                Sentence.due(x, (rim + (s / 2 % 2 == 0 ? 28 : 36)) % 64, "hub", s);
            }
            x.snap(s);
            Sentence.due(x, (rim + (s / 2 % 2 == 0 ? 28 : 36)) % 64, "hub", s);
        }
    }

    private static void ahead() {
        int[][] due = {{8, 0, 16, 32, 48, 0, 16, 32, 48}, {16, 0, 8, 16, 24, 32, 40, 48, 56}, {32, 0, 4, 8, 12, 16, 20, 24, 28}};
        for (int[] row : due) {
            for (int c = 0; c < 8; c++) {
                Sentence.due(laced(row[0], 20, 30, 300, c), row[1 + c], "hub", 0);
                Sentence.due(laced(row[0], 20, 30, 300, c), (64 / row[0] + row[1 + c]) % 64, "hub", 1);
            }
        }
    }

    private static void behind() {
        WheelStand x = laced(32, 20, 30, 300, 1);
        // 4 steps; rim holes lie 2 apart
        int[] due = {4, 6, 0, 2, 12, 14, 8, 10};
        for (int s = 0; s < 32; s++) {
            Sentence.due(x, 16 * (s / 8) + due[s % 8], "hub", s);
        }
        // round past 0, both ways
        x.lace(20, 30, 300, 7);
        Sentence.due(x, 40, "hub", 2);
        Sentence.due(x, 42, "hub", 3);
        Sentence.due(x, 20, "hub", 28);
        Sentence.due(x, 22, "hub", 29);
        WheelStand y = laced(8, 20, 30, 300, 7);
        Sentence.due(y, 32, "hub", 2);
        Sentence.due(y, 8, "hub", 7);
    }

    private static void wholeRoots() {
        // 2500 is 50 * 50; 2600 is 1 less than 51 * 51; 224 is 1 less than 15 * 15; 783 is 1 less than 28 * 28
        Sentence.due(laced(8, 3, 0, 4, 1), 50, "length", 0);
        Sentence.due(laced(8, 5, 0, 1, 1), 50, "length", 0);
        Sentence.due(laced(32, 1, 1, 1, 3), 14, "length", 0);
        Sentence.due(laced(32, 2, 0, 1, 6), 27, "length", 0);
        // 100 times a square is a square: 30, 40 and 0 make 50
        Sentence.due(laced(32, 30, 0, 40, 4), 500, "length", 0);
        Sentence.due(laced(32, 200, 0, 1000, 0), 8000, "length", 0);
        Sentence.due(laced(8, 200, 0, 1000, 2), 12000, "length", 0);
        // about powers of two: 100 times 671250, 670962, 167810, 167725
        Sentence.due(laced(8, 175, 200, 775, 1), 8192, "length", 0);
        Sentence.due(laced(8, 199, 200, 769, 1), 8191, "length", 0);
        Sentence.due(laced(8, 199, 200, 297, 1), 4096, "length", 0);
        Sentence.due(laced(8, 190, 180, 315, 1), 4095, "length", 0);
    }

    private static void cutTowardsBelow() {
        // 2 * 6 * COS(28): 100 * 17 + 1108 and a part makes 2809, 53 * 53; cut towards 0 it would be 1 less
        Sentence.due(laced(32, 3, 2, 2, 7), 53, "length", 0);
        Sentence.due(laced(32, 11, 0, 7, 6), 167, "length", 0);
        Sentence.due(laced(32, 14, 0, 3, 5), 154, "length", 0);
        // 200 - 184 and a part makes 16; what is cut is the part that is taken off, not the whole
        Sentence.due(laced(32, 1, 0, 1, 1), 4, "length", 0);
        Sentence.due(laced(32, 3, 0, 1, 2), 24, "length", 0);
        Sentence.due(laced(32, 3, 0, 2, 3), 29, "length", 0);
    }

    private static void atLeastZero() {
        for (int r : new int[] {1, 7, 100, 200}) {
            Sentence.due(laced(32, r, 0, r, 0), 0, "length", 0);
            Sentence.due(laced(32, r, 1, r, 0), 10, "length", 31);
            Sentence.due(laced(8, r, 0, r, 4), 0, "length", 2);
        }
    }

    private static void cosines() {
        // r 100, R 100, o 0: 2000000 - 2000000 * COS / 1024, by h from 0 on in steps of 4
        int[] due = {0, 390, 765, 1111, 1414, 1663, 1847, 1961};
        for (int c = 0; c < 8; c++) {
            WheelStand x = laced(32, 100, 0, 100, c);
            Sentence.due(x, due[c], "length", 0);
            Sentence.due(x, due[c], "length", 1);
            Sentence.due(x, due[c], "length", 2);
            Sentence.due(x, due[c], "length", 31);
        }
    }

    private static void afterARound() {
        // by h of 8 to a crossing: 32 is half a round, 40 as 24, 48 as 16, 56 as 8
        int[] due = {0, 765, 1414, 1847, 2000, 1847, 1414, 765};
        for (int c = 0; c < 8; c++) {
            Sentence.due(laced(16, 100, 0, 100, c), due[c], "length", 1);
            Sentence.due(laced(16, 100, 0, 100, c), due[c], "length", 14);
        }
        // by 16: 64 is 0 again, 112 as 16
        int[] of8 = {0, 1414, 2000, 1414, 0, 1414, 2000, 1414};
        for (int c = 0; c < 8; c++) {
            Sentence.due(laced(8, 100, 0, 100, c), of8[c], "length", 1);
            Sentence.due(laced(8, 100, 0, 100, c), of8[c], "length", 6);
        }
    }

    private static void dueCross(WheelStand x, int want, int s, int t) {
        Sentence.due(x, want, "crosses", s, t);
        Sentence.due(x, want, "crosses", t, s);
    }

    private static void likeLean() {
        // 0 and 2 cross as they lie, whatever they are, if they lean alike to one side
        int[] leans = {0, 1, -1, -1, 0, 1};
        for (int one : new int[] {0, 1, 2, 3}) {
            for (int other : new int[] {0, 1, 2, 3}) {
                WheelStand x = laced(32, 20, 30, 300, 3);
                x.kind(0, one);
                x.kind(2, other);
                dueCross(x, leans[one] != 0 && leans[one] == leans[other] ? 1 : 0, 0, 2);
            }
        }
        WheelStand y = laced(32, 20, 30, 300, 3);
        y.snap(0);
        dueCross(y, 0, 0, 2);
        y.snap(2);
        dueCross(y, 0, 0, 2);
    }

    private static void round() {
        // 29 goes ahead from 58, 3 goes behind from 6: 12 steps on, over 0
        WheelStand x = laced(32, 20, 30, 300, 3);
        dueCross(x, 1, 29, 3);
        dueCross(x, 1, 28, 2);
        // 31 goes behind, 1 ahead: away from one another
        dueCross(x, 0, 31, 1);
        dueCross(x, 0, 30, 0);
        // both ahead, near and far; and one behind, far off
        dueCross(x, 0, 0, 4);
        dueCross(x, 0, 0, 16);
        dueCross(x, 0, 0, 18);
    }

    private static void belowZero() {
        // 0 goes 12 ahead, STRAIGHT ones go nowhere: w is 8 at 4, 12 at 6, 16 at 8
        WheelStand x = laced(32, 20, 30, 300, 3);
        for (int t : new int[] {4, 6, 8}) {
            x.kind(t, 5);
        }
        dueCross(x, 1, 0, 4);
        dueCross(x, 0, 0, 6);
        dueCross(x, 0, 0, 8);
        // 10 and 14 go 12 behind: 20 - 24, 28 - 24
        dueCross(x, 1, 0, 10);
        dueCross(x, 0, 0, 14);
        // the same of RIGHT ones, from 1 on: 18 - 24, 26 - 24
        x.kind(10, 2);
        x.kind(14, 2);
        dueCross(x, 1, 1, 10);
        dueCross(x, 0, 1, 14);
    }

    private static void above64() {
        // 2 goes 12 behind, STRAIGHT ones go nowhere: w is 52 at 28, 56 at 30
        WheelStand x = laced(32, 20, 30, 300, 3);
        x.kind(28, 5);
        x.kind(30, 5);
        x.kind(26, 5);
        Sentence.due(x, 0, "crosses", 2, 26);
        Sentence.due(x, 0, "crosses", 2, 28);
        Sentence.due(x, 1, "crosses", 2, 30);
        // over more than a round: of 8 holes c 7 goes 112
        WheelStand y = laced(8, 20, 30, 300, 7);
        Sentence.due(y, 1, "crosses", 0, 2);
        Sentence.due(y, 1, "crosses", 2, 0);
        Sentence.due(y, 0, "crosses", 0, 4);
        Sentence.due(y, 0, "crosses", 4, 0);
    }
}
