/** Promises 13 to 16. */
public final class ReadingsTest {
    private static final int BAD = WheelStand.BAD, NONE = WheelStand.NONE;

    public static void main(String[] args) {
        unbent();
        unbentRound();
        reading();
        middle();
        spreads();
        worst();
        loose();
        within();
        why();
        Check.end();
    }

    private static void unbent() {
        WheelStand x = new WheelStand();
        for (int row = 0; row < 2; row++) {
            Check.due("13: none is read", x.unbent(row, 3), 0);
            x.read(row, 2, -7);
            for (int place = 0; place < 8; place++) {
                Check.due("13: one is read", x.unbent(row, place), -7);
            }
            x.read(row, 5, 4);
            int[] due = {-3, -5, -7, -4, 0, 4, 1, -1};
            for (int place = 0; place < 8; place++) {
                Check.due("13: two are read, at " + place, x.unbent(row, place), due[place]);
            }
            x.read(row, 5, -10000);
            Check.due("13: one again", x.unbent(row, 5), -7);
            x.read(row, 2, -10000);
            Check.due("13: none again", x.unbent(row, 2), 0);
        }
        Check.due("13: row", x.unbent(-1, 0), BAD);
        Check.due("13: row", x.unbent(2, 0), BAD);
        Check.due("13: place", x.unbent(0, -1), BAD);
        Check.due("13: place", x.unbent(0, 8), BAD);
    }

    private static void unbentRound() {
        WheelStand x = new WheelStand();
        x.wheel(32);
        x.read(0, 31, 9999);
        x.read(0, 30, -9999);
        Check.due("13: next to 31", x.unbent(0, 0), 9353);
        Check.due("13: next to 30", x.unbent(0, 29), -9354);
        Check.due("13: far", x.unbent(0, 15), -323);
        Check.due("13: other row", x.unbent(1, 15), 0);
        Check.due("13: 31", x.unbent(0, 31), 9999);
        Check.due("13: beyond", x.unbent(0, 32), BAD);
    }

    private static void reading() {
        WheelStand x = new WheelStand();
        Check.fill(x, 0, 10, 4, -3, 2, 1);
        Check.fill(x, 1, 5, -2);
        x.read(0, 6, 100);
        x.read(1, 6, -50);
        x.kind(1, 3);
        x.kind(3, 0);
        x.turn(0, 3);
        x.turn(1, -2);
        x.turn(3, 7);
        // SIDE: 3 * 1 * table by steps from 0, and -2 * 2 * -1 * table by steps from 1; a SPOKE leans to no side
        int[] side = {100 + 30 + 16, 100 + 12 + 40, 100 - 9 + 16, 100 + 6 - 12, 100 + 3 + 8, 100 + 6 + 4, 100 - 9 + 8, 100 + 12 - 12};
        int[] up = {-50 + 15 + 8, -50 - 6 - 20, -50 + 8 - 14, -50 + 35, -50 - 14, -50, -50, -50 - 6};
        for (int place = 0; place < 8; place++) {
            Check.due("14: side at " + place, x.reading(0, place), side[place]);
            Check.due("14: up at " + place, x.reading(1, place), up[place]);
            Check.due("14: unbent at " + place, x.unbent(0, place), 100);
        }
        x.kind(0, 2);
        x.table(0, -1);
        Check.due("14: made stays, whatever comes after", x.reading(0, 0), side[0]);
        x.read(0, 6, 0);
        Check.due("14: read anew", x.reading(0, 0), side[0] - 100);
        Check.due("14: row", x.reading(2, 0), BAD);
        Check.due("14: row", x.reading(-1, 0), BAD);
        Check.due("14: place", x.reading(0, 8), BAD);
        Check.due("14: place", x.reading(1, -1), BAD);
    }

    private static void middle() {
        WheelStand x = new WheelStand();
        for (int place = 0; place < 8; place++) {
            x.read(0, place, 0);
            x.read(1, place, 99);
        }
        x.read(0, 1, -1);
        Check.due("15: middle cuts towards below", x.state(0), -1);
        x.read(0, 1, 7);
        Check.due("15: middle below 1", x.state(0), 0);
        x.read(0, 2, 1);
        Check.due("15: middle", x.state(0), 1);
        Check.fill(x, 0, 9);
        x.turn(4, 5);
        Check.due("15: middle with turns", x.state(0), 6);
        Check.due("15: what", x.state(-1), BAD);
        Check.due("15: what", x.state(6), BAD);
    }

    private static void spreads() {
        WheelStand x = new WheelStand();
        x.tune(0, 530);
        x.tune(2, 480);
        x.kind(4, 5);
        x.tune(4, -10);
        x.tune(1, 501);
        x.kind(3, 3);
        x.tune(3, 600);
        x.kind(6, 0);
        x.tune(6, 100000);
        Check.due("15: left", x.state(1), 540);
        Check.due("15: right", x.state(2), 100);
        x.snap(4);
        Check.due("15: one that is gone counts no more", x.state(1), 50);
        x.kind(0, 0);
        x.kind(2, 0);
        Check.due("15: none that leans left", x.state(1), 0);
        x.kind(0, 1);
        Check.due("15: one alone", x.state(1), 0);
    }

    private static void worst() {
        WheelStand x = new WheelStand();
        Check.due("15: none", x.state(3), 0);
        x.limit(0, 7);
        x.limit(2, 1000000);
        x.read(0, 0, -20);
        Check.due("15: side", x.state(3), 2857);
        x.limit(1, 3);
        x.read(1, 5, 10);
        Check.due("15: up", x.state(3), 3333);
        x.limit(2, 3);
        Check.due("15: middle", x.state(3), 6666);
        x.limit(3, 9);
        x.tune(1, 439);
        Check.due("15: right spread", x.state(3), 6777);
        x.tune(0, 562);
        Check.due("15: left spread", x.state(3), 6888);
        x.limit(3, 1);
        x.tune(0, 100000);
        Check.due("15: great", x.state(3), 99500000);
        Check.fill(x, 4, 0, 0, 1000);
        for (int i = 0; i < 12; i++) {
            x.snap(0);
            x.anew(0, 1, 0);
            x.snap(2);
            x.anew(2, 1, 0);
            x.tune(0, 100000);
        }
        Check.due("15: never above 1000000000", x.state(3), 1000000000);
    }

    private static void loose() {
        WheelStand x = new WheelStand();
        Check.due("15: none loose", x.state(4), 0);
        x.tune(0, 0);
        Check.due("15: 0 is not loose", x.state(4), 0);
        x.tune(0, -1);
        x.tune(5, -100000);
        x.kind(5, 0);
        Check.due("15: two loose", x.state(4), 2);
        x.snap(0);
        Check.due("15: gone is not loose", x.state(4), 1);
    }

    private static void within() {
        WheelStand x = new WheelStand();
        Check.due("15: within", x.state(5), 1);
        x.read(0, 3, -100);
        x.read(1, 3, 100);
        x.tune(2, 400);
        x.tune(3, 600);
        Check.due("15: at the limits", x.state(5), 1);
        x.limit(4, 1);
        Check.due("15: a pull above limit 4 is within", x.state(5), 1);
        x.tune(3, 601);
        Check.due("15: not within", x.state(5), 0);
        x.limit(3, 101);
        Check.due("15: within again", x.state(5), 1);
        x.limit(3, 1000);
        x.tune(3, -1);
        Check.due("15: loose", x.state(5), 0);
    }

    private static void why() {
        WheelStand x = new WheelStand();
        Check.due("16: within", x.why(), NONE);
        x.kind(7, 0);
        x.kind(6, 0);
        x.tune(7, -1);
        Check.due("16: loose", x.why(), 407);
        x.tune(6, -1);
        Check.due("16: the least loose one", x.why(), 406);
        x.kind(0, 0);
        x.tune(0, -1);
        Check.due("16: the first one is loose", x.why(), 400);
        x.kind(0, 1);
        x.tune(0, 500);
        x.tune(1, 601);
        Check.due("16: right", x.why(), 301);
        x.tune(0, 399);
        Check.due("16: left", x.why(), 300);
        x.limit(2, 9);
        for (int place = 0; place < 8; place++) {
            x.read(0, place, -10);
        }
        Check.due("16: middle", x.why(), 200);
        x.read(1, 0, 0);
        x.read(1, 7, -101);
        Check.due("16: up", x.why(), 107);
        x.read(1, 0, 101);
        Check.due("16: up at 0", x.why(), 100);
        x.read(0, 7, 101);
        Check.due("16: side", x.why(), 7);
        x.read(0, 2, -101);
        Check.due("16: side, first", x.why(), 2);
        x.wheel(32);
        x.read(1, 31, 200);
        x.read(1, 30, 0);
        x.read(1, 0, 0);
        Check.due("16: up at 31", x.why(), 131);
    }
}
