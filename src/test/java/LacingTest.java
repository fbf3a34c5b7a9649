/** Promises 27 to 32. */
public final class LacingTest {
    private static final int BAD = WheelStand.BAD;

    public static void main(String[] args) {
        lace();
        length();
        lengthsRound();
        hub();
        crosses();
        crossesOf32();
        crossings();
        count();
        Check.end();
    }

    private static void lace() {
        WheelStand x = new WheelStand();
        int[][] bad = {{0, 0, 1, 0}, {201, 0, 1, 0}, {1, -1, 1, 0}, {1, 201, 1, 0}, {1, 0, 0, 0}, {1, 0, 1001, 0}, {1, 0, 1, -1}, {1, 0, 1, 8}};
        for (int[] a : bad) {
            Check.due("27: lace", x.lace(a[0], a[1], a[2], a[3]), BAD);
            Check.due("27: nothing changed", x.length(0), 3021);
            Check.due("27: nothing changed", x.hub(0), 48);
        }
        Check.due("27: least", x.lace(1, 0, 1, 0), 0);
        Check.due("27: length", x.length(0), 0);
        Check.due("27: most", x.lace(200, 200, 1000, 7), 0);
        Check.due("27: length", x.length(0), 10392);
    }

    private static void length() {
        WheelStand x = new WheelStand();
        x.lace(30, 40, 300, 0);
        // 100 * 92500 - 200 * 9000
        Check.due("28: c 0", x.length(0), 2729);
        x.lace(30, 40, 300, 1);
        Check.due("28: a quarter round", x.length(0), 3041);
        Check.due("28: behind", x.length(2), 3041);
        x.lace(30, 40, 300, 2);
        Check.due("28: half round", x.length(3), 3324);
        x.kind(3, 5);
        Check.due("28: straight", x.length(3), 2729);
        x.snap(3);
        Check.due("28: gone", x.length(3), 3324);
        x.lace(3, 0, 4, 1);
        Check.due("28: a whole root", x.length(0), 50);
        x.lace(200, 0, 1000, 2);
        Check.due("28: the longest", x.length(0), 12000);
        x.wheel(32);
        int[] due = {8000, 8188, 8701, 9417, 10198, 10923, 11501, 11872};
        for (int c = 0; c < 8; c++) {
            x.lace(200, 0, 1000, c);
            Check.due("28: ahead, c " + c, x.length(1), due[c]);
            Check.due("28: behind, c " + c, x.length(31), due[c]);
        }
        Check.due("28: spoke", x.length(32), BAD);
        Check.due("28: spoke", x.length(-1), BAD);
    }

    private static void lengthsRound() {
        WheelStand x = new WheelStand();
        Model m = new Model();
        for (int holes = 8; holes <= 32; holes *= 2) {
            x.wheel(holes);
            m.wheel(holes);
            for (int c = 0; c < 8; c++) {
                x.lace(7 + 13 * c, 11, 101 + 3 * c, c);
                m.lace(7 + 13 * c, 11, 101 + 3 * c, c);
                for (int s = 0; s < holes; s += 3) {
                    Check.due("28: " + holes + " holes, c " + c + ", of " + s, x.length(s), m.length(s));
                    Check.due("29: " + holes + " holes, c " + c + ", of " + s, x.hub(s), m.hub(s));
                }
            }
        }
    }

    private static void hub() {
        WheelStand x = new WheelStand();
        x.wheel(32);
        // h is 12 steps
        int[] due = {12, 14, 56, 58, 20, 22, 0, 2};
        for (int s = 0; s < 8; s++) {
            Check.due("29: hub of " + s, x.hub(s), due[s]);
        }
        Check.due("29: round", x.hub(29), 6);
        x.kind(5, 5);
        Check.due("29: straight", x.hub(5), 10);
        x.lace(1, 1, 1, 0);
        Check.due("29: c 0", x.hub(31), 62);
        x.wheel(8);
        x.lace(1, 1, 1, 7);
        Check.due("29: more than a round", x.hub(1), 56);
        Check.due("29: more than a round behind", x.hub(2), 32);
        Check.due("29: spoke", x.hub(8), BAD);
        Check.due("29: spoke", x.hub(-1), BAD);
    }

    private static void crosses() {
        WheelStand x = new WheelStand();
        for (int s = 0; s < 8; s++) {
            for (int t = 0; t < 8; t++) {
                // 3 crossed of 8 holes: each crosses both of its lean that lie the other way
                int due = s == t ? BAD : (s - t) % 2 == 0 && (s - t) % 4 != 0 ? 1 : 0;
                Check.due("30: " + s + " and " + t, x.crosses(s, t), due);
            }
        }
        x.lace(20, 30, 300, 0);
        Check.due("30: c 0", x.crosses(0, 2), 0);
        x.lace(20, 30, 300, 3);
        x.kind(0, 0);
        x.kind(2, 0);
        Check.due("30: both lean to no side", x.crosses(0, 2), 0);
        x.kind(0, 2);
        x.kind(2, 1);
        Check.due("30: not alike", x.crosses(0, 2), 0);
        x.kind(2, 3);
        Check.due("30: thick and right", x.crosses(0, 2), 1);
        x.snap(2);
        Check.due("30: gone", x.crosses(0, 2), 0);
        Check.due("30: spoke", x.crosses(8, 0), BAD);
        Check.due("30: other", x.crosses(0, 8), BAD);
        Check.due("30: spoke", x.crosses(-1, 0), BAD);
        Check.due("30: other", x.crosses(0, -1), BAD);
        Check.due("30: the same", x.crosses(3, 3), BAD);
    }

    private static void crossesOf32() {
        WheelStand x = new WheelStand();
        x.wheel(32);
        // 0 leads 12 steps ahead, 2 lies 12 behind: w is 4 and w - 12 - 12 below 0
        Check.due("30: 0, 2", x.crosses(0, 2), 1);
        Check.due("30: 0, 6", x.crosses(0, 6), 1);
        Check.due("30: 0, 10", x.crosses(0, 10), 1);
        Check.due("30: 0, 14", x.crosses(0, 14), 0);
        Check.due("30: 0, 4 go alike", x.crosses(0, 4), 0);
        Check.due("30: 2, 0", x.crosses(2, 0), 1);
        Check.due("30: 30, 0 go apart", x.crosses(30, 0), 0);
        Check.due("30: over 0", x.crosses(28, 2), 1);
        x.kind(4, 5);
        Check.due("30: one ahead over a straight one", x.crosses(0, 4), 1);
        x.kind(6, 5);
        Check.due("30: meeting at the hub is no crossing", x.crosses(0, 6), 0);
        Check.due("30: nor from the other", x.crosses(6, 0), 0);
        Check.due("30: two straight ones", x.crosses(4, 6), 0);
        x.lace(20, 30, 300, 1);
        x.kind(2, 1);
        Check.due("30: w - 4 - 4", x.crosses(0, 2), 1);
        x.kind(2, 5);
        Check.due("30: w - 4", x.crosses(0, 2), 0);
        Check.due("30: 64 - w + 4", x.crosses(2, 0), 0);
    }

    private static void crossings() {
        WheelStand x = new WheelStand();
        x.wheel(32);
        for (int c = 0; c < 8; c++) {
            x.lace(20, 30, 300, c);
            for (int s = 0; s < 32; s++) {
                Check.due("31: c " + c + ", of " + s, x.crossings(s), c);
            }
        }
        x.lace(20, 30, 300, 3);
        x.snap(2);
        Check.due("31: one is gone", x.crossings(0), 2);
        Check.due("31: of one that is gone", x.crossings(2), 0);
        x.kind(6, 0);
        Check.due("31: one leans to no side", x.crossings(0), 1);
        x.kind(5, 1);
        Check.due("31: one more leans alike", x.crossings(0), 1);
        x.kind(7, 5);
        x.kind(3, 1);
        Check.due("31: another crosses", x.crossings(0), 2);
        Check.due("31: spoke", x.crossings(32), BAD);
        Check.due("31: spoke", x.crossings(-1), BAD);
    }

    private static void count() {
        WheelStand x = new WheelStand();
        x.wheel(16);
        x.snap(0);
        x.snap(15);
        x.turn(1, -100);
        x.turn(2, 7);
        x.read(0, 0, 0);
        x.read(0, 15, 9);
        x.read(0, 14, 9);
        x.read(1, 3, -9999);
        int[] due = {16, 14, 2, 107, 3, 1};
        for (int what = 0; what < 6; what++) {
            Check.due("32: count(" + what + ")", x.count(what), due[what]);
        }
        x.undo();
        x.anew(0, 1, 1);
        x.read(0, 0, -10000);
        int[] then = {16, 15, 1, 100, 2, 1};
        for (int what = 0; what < 6; what++) {
            Check.due("32: count(" + what + ") then", x.count(what), then[what]);
        }
        Check.due("32: what", x.count(-1), BAD);
        Check.due("32: what", x.count(6), BAD);
    }
}
