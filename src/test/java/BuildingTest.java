/** Promises 1 to 12. */
public final class BuildingTest {
    private static final int BAD = WheelStand.BAD, NO = WheelStand.NO, NOTHING = WheelStand.NOTHING, INDEX = WheelStand.INDEX, NONE = WheelStand.NONE;

    public static void main(String[] args) {
        newObject();
        wheel();
        wheelKeepsTablesLimitsLacing();
        kind();
        table();
        enter();
        copy();
        read();
        limit();
        tune();
        about();
        isOf();
        tells();
        Check.end();
    }

    private static void newObject() {
        WheelStand x = new WheelStand();
        Check.due("1: holes", x.count(0), 8);
        Check.due("1: all stand", x.count(1), 8);
        Check.due("1: no turns", x.count(2), 0);
        Check.due("1: no quarters", x.count(3), 0);
        Check.due("1: side not read", x.count(4), 0);
        Check.due("1: up not read", x.count(5), 0);
        for (int s = 0; s < 8; s++) {
            Check.due("1: kind", x.about(s, 0), s % 2 == 0 ? 1 : 2);
            Check.due("1: pull", x.about(s, 3), 500);
            Check.due("1: side", x.reading(0, s), 0);
            Check.due("1: up", x.reading(1, s), 0);
        }
        for (int table = 0; table < 6; table++) {
            Check.due("1: table is missing", x.enter(table, 0, 0), NOTHING);
        }
        for (int which = 0; which < 5; which++) {
            Check.due("1: limit", x.limit(which, 7), which == 4 ? 1000 : 100);
        }
        // r 20, o 30, R 300, c 3 tell in the length of a spoke that goes straight, and in a hub hole
        Check.due("1: hub", x.hub(0), 48);
        Check.due("1: length", x.length(0), 3021);
        x.kind(0, 5);
        Check.due("1: straight length", x.length(0), 2816);
        Check.due("1: within", new WheelStand().why(), NONE);
    }

    private static void wheel() {
        WheelStand x = new WheelStand();
        for (int holes : new int[] {0, -8, 7, 9, 24, 31, 33, 64, Integer.MIN_VALUE, Integer.MAX_VALUE}) {
            Check.due("2: wheel", x.wheel(holes), BAD);
            Check.due("2: nothing changed", x.count(0), 8);
        }
        for (int holes : new int[] {16, 32, 8, 32}) {
            x.read(0, 1, 5);
            x.read(1, 2, 6);
            x.tune(3, 9);
            x.kind(4, 0);
            x.snap(5);
            Check.fill(x, 1, 3);
            x.turn(1, 1);
            Check.due("2: wheel", x.wheel(holes), holes);
            Check.due("2: holes", x.count(0), holes);
            Check.due("2: all stand", x.count(1), holes);
            Check.due("2: log", x.count(2), 0);
            Check.due("2: nothing to take back", x.undo(), NO);
            Check.due("2: side not read", x.count(4), 0);
            Check.due("2: up not read", x.count(5), 0);
            for (int s = 0; s < holes; s++) {
                Check.due("2: kind", x.about(s, 0), 1 + s % 2);
                Check.due("2: pull", x.about(s, 3), 500);
                Check.due("2: side", x.reading(0, s), 0);
                Check.due("2: up", x.reading(1, s), 0);
            }
            Check.due("2: beyond", x.about(holes, 0), BAD);
            Check.due("2: up again", x.turn(holes - 1, 1), 500);
            Check.due("2: table stays", x.reading(1, holes - 1), 3);
        }
    }

    private static void wheelKeepsTablesLimitsLacing() {
        WheelStand x = new WheelStand();
        Check.fill(x, 0, 4, 5);
        x.limit(0, 77);
        x.limit(4, 2000);
        x.lace(10, 20, 100, 1);
        int length = x.length(0);
        x.wheel(8);
        Check.due("2: table", x.tells(0, 1), 5);
        Check.due("2: limit 0", x.limit(0, 1), 77);
        Check.due("2: limit 4", x.limit(4, 1), 2000);
        Check.due("2: hub", x.hub(0), 16);
        Check.due("2: length", x.length(0), length);
    }

    private static void kind() {
        WheelStand x = new WheelStand();
        int was = 1;
        for (int kind : new int[] {0, 1, 2, 3, 5, 5, 0}) {
            Check.due("3: kind", x.kind(0, kind), was);
            Check.due("3: has it", x.about(0, 0), kind);
            was = kind;
        }
        for (int kind : new int[] {4, -1, 6, Integer.MAX_VALUE}) {
            Check.due("3: no such", x.kind(0, kind), BAD);
        }
        Check.due("3: spoke", x.kind(-1, 0), BAD);
        Check.due("3: spoke", x.kind(8, 0), BAD);
        Check.due("3: stays", x.about(0, 0), 0);
        x.snap(0);
        Check.due("3: gone", x.kind(0, 1), NO);
        Check.due("3: bad before gone", x.kind(0, 4), BAD);
        Check.due("3: gone still", x.about(0, 0), 4);
    }

    private static void table() {
        WheelStand x = new WheelStand();
        Check.due("4: 17", x.table(5, 17), 17);
        Check.due("4: last place", x.enter(5, 16, 9), 0);
        Check.due("4: none behind", x.enter(5, 17, 9), INDEX);
        Check.due("4: anew", x.table(5, 17), 17);
        Check.due("4: all 0", x.tells(5, 16), 0);
        Check.due("4: 0 places", x.table(5, 0), 0);
        Check.due("4: there, but without places", x.enter(5, 0, 1), INDEX);
        Check.due("4: missing", x.table(5, -1), 0);
        Check.due("4: missing now", x.enter(5, 0, 1), NOTHING);
        Check.due("4: missing again", x.table(5, -1), 0);
        Check.fill(x, 0, 1, 2, 3);
        Check.due("4: shorter", x.table(0, 1), 1);
        Check.due("4: place 0", x.tells(0, 0), 0);
        Check.due("4: place 2", x.tells(0, 2), 0);
        Check.fill(x, 0, 8);
        for (int n : new int[] {-2, 18, Integer.MIN_VALUE, Integer.MAX_VALUE}) {
            Check.due("4: n", x.table(0, n), BAD);
        }
        Check.due("4: table", x.table(-1, 1), BAD);
        Check.due("4: table", x.table(6, 1), BAD);
        Check.due("4: stays", x.tells(0, 0), 8);
    }

    private static void enter() {
        WheelStand x = new WheelStand();
        x.table(3, 2);
        Check.due("5: first", x.enter(3, 1, 1000), 0);
        Check.due("5: was", x.enter(3, 1, -1000), 1000);
        Check.due("5: too much", x.enter(3, 1, 1001), BAD);
        Check.due("5: too little", x.enter(3, 1, -1001), BAD);
        Check.due("5: table", x.enter(-1, 1, 0), BAD);
        Check.due("5: table", x.enter(6, 1, 0), BAD);
        Check.due("5: behind", x.enter(3, 2, 0), INDEX);
        Check.due("5: ahead", x.enter(3, -1, 0), INDEX);
        Check.due("5: far", x.enter(3, Integer.MIN_VALUE, 0), INDEX);
        Check.due("5: bad before index", x.enter(3, 2, 1001), BAD);
        Check.due("5: missing before index", x.enter(2, 99, 0), NOTHING);
        Check.due("5: bad before missing", x.enter(2, 0, -1001), BAD);
        Check.due("5: stays", x.enter(3, 1, 0), -1000);
    }

    private static void copy() {
        WheelStand x = new WheelStand();
        Check.fill(x, 0, 1, 2, 3);
        Check.fill(x, 5, 7, 8, 9, 10);
        Check.due("6: two", x.copy(0, 5, 2), 2);
        Check.due("6: place 0", x.tells(5, 0), 1);
        Check.due("6: place 1", x.tells(5, 1), 2);
        Check.due("6: place 2 stays", x.tells(5, 2), 9);
        Check.due("6: none", x.copy(0, 5, 0), 0);
        Check.due("6: more than from has", x.copy(0, 5, 4), INDEX);
        Check.due("6: more than to has", x.copy(5, 0, 4), INDEX);
        Check.due("6: below 0", x.copy(5, 0, -1), INDEX);
        Check.due("6: all", x.copy(5, 0, 3), 3);
        Check.due("6: place 2", x.tells(0, 2), 9);
        Check.due("6: from stays", x.tells(5, 2), 9);
        Check.due("6: its own", x.copy(0, 0, 3), 3);
        Check.due("6: its own stays", x.tells(0, 1), 2);
        Check.due("6: its own, too many", x.copy(0, 0, 4), INDEX);
        Check.due("6: missing from", x.copy(1, 0, 0), NOTHING);
        Check.due("6: missing to", x.copy(0, 1, 99), NOTHING);
        Check.due("6: missing itself", x.copy(1, 1, 0), NOTHING);
        Check.due("6: from", x.copy(-1, 1, 0), BAD);
        Check.due("6: to", x.copy(1, 6, 0), BAD);
    }

    private static void read() {
        WheelStand x = new WheelStand();
        Check.due("7: first", x.read(0, 3, 9999), -10000);
        Check.due("7: again", x.read(0, 3, -9999), 9999);
        Check.due("7: not read", x.read(0, 3, -10000), -9999);
        Check.due("7: not read again", x.read(0, 3, -10000), -10000);
        Check.due("7: other row", x.read(1, 7, 0), -10000);
        Check.due("7: 0 is read", x.read(1, 7, 4), 0);
        Check.due("7: one between is not read", x.read(1, 6, 4), -10000);
        for (int v : new int[] {10000, -10001, Integer.MIN_VALUE, Integer.MAX_VALUE}) {
            Check.due("7: v", x.read(1, 7, v), BAD);
        }
        Check.due("7: row", x.read(-1, 0, 0), BAD);
        Check.due("7: row", x.read(2, 0, 0), BAD);
        Check.due("7: place", x.read(0, -1, 0), BAD);
        Check.due("7: place", x.read(0, 8, 0), BAD);
        Check.due("7: read in row 0", x.count(4), 0);
        Check.due("7: read in row 1", x.count(5), 2);
    }

    private static void limit() {
        WheelStand x = new WheelStand();
        for (int which = 0; which < 5; which++) {
            Check.due("8: first", x.limit(which, 1), which == 4 ? 1000 : 100);
            Check.due("8: least", x.limit(which, 1000000), 1);
            Check.due("8: too little", x.limit(which, 0), BAD);
            Check.due("8: too much", x.limit(which, 1000001), BAD);
            Check.due("8: most", x.limit(which, 50), 1000000);
        }
        Check.due("8: which", x.limit(-1, 1), BAD);
        Check.due("8: which", x.limit(5, 1), BAD);
    }

    private static void tune() {
        WheelStand x = new WheelStand();
        Check.due("9: most", x.tune(7, 100000), 500);
        Check.due("9: least", x.tune(7, -100000), 100000);
        Check.due("9: too much", x.tune(7, 100001), BAD);
        Check.due("9: too little", x.tune(7, -100001), BAD);
        Check.due("9: spoke", x.tune(8, 0), BAD);
        Check.due("9: spoke", x.tune(-1, 0), BAD);
        Check.due("9: stays", x.about(7, 3), -100000);
        Check.due("9: others stay", x.about(6, 3), 500);
        x.snap(6);
        Check.due("9: gone", x.tune(6, 5), NO);
        Check.due("9: bad before gone", x.tune(6, 100001), BAD);
        Check.due("9: gone has none", x.about(6, 3), 0);
    }

    private static void about() {
        WheelStand x = new WheelStand();
        int[][] of = {{0, 0, 1}, {1, 1, 1}, {2, -1, 1}, {3, -1, 2}, {5, 1, 1}};
        for (int[] row : of) {
            x.kind(3, row[0]);
            Check.due("10: kind", x.about(3, 0), row[0]);
            Check.due("10: leans", x.about(3, 1), row[1]);
            Check.due("10: force", x.about(3, 2), row[2]);
            Check.due("10: pull", x.about(3, 3), 500);
        }
        x.snap(3);
        int[] gone = {4, 0, 0, 0};
        for (int what = 0; what < 4; what++) {
            Check.due("10: of one that is gone", x.about(3, what), gone[what]);
        }
        Check.due("10: what", x.about(0, -1), BAD);
        Check.due("10: what", x.about(0, 4), BAD);
        Check.due("10: spoke", x.about(-1, 0), BAD);
        Check.due("10: spoke", x.about(8, 3), BAD);
    }

    private static void isOf() {
        WheelStand x = new WheelStand();
        int[][] of = {{1, 0, 0, 0, 0, 0}, {1, 1, 0, 0, 0, 0}, {1, 0, 1, 0, 0, 0}, {1, 0, 1, 1, 0, 0}, {1, 0, 0, 0, 1, 0}, {1, 1, 0, 0, 0, 1}};
        for (int own = 0; own < 6; own++) {
            if (own == 4) {
                x.snap(2);
            } else {
                x.kind(1, own);
            }
            int spoke = own == 4 ? 2 : 1;
            for (int kind = 0; kind < 6; kind++) {
                Check.due("11: " + own + " is of " + kind, x.isOf(spoke, kind), of[own][kind]);
            }
        }
        Check.due("11: kind", x.isOf(0, -1), BAD);
        Check.due("11: kind", x.isOf(0, 6), BAD);
        Check.due("11: spoke", x.isOf(-1, 0), BAD);
        Check.due("11: spoke", x.isOf(8, 0), BAD);
    }

    private static void tells() {
        WheelStand x = new WheelStand();
        Check.due("12: missing", x.tells(4, 0), 0);
        Check.fill(x, 4, 6, -7);
        Check.due("12: place 0", x.tells(4, 0), 6);
        Check.due("12: place 1", x.tells(4, 1), -7);
        Check.due("12: behind", x.tells(4, 2), 0);
        Check.due("12: last", x.tells(4, 16), 0);
        Check.due("12: steps", x.tells(4, 17), BAD);
        Check.due("12: steps", x.tells(4, -1), BAD);
        Check.due("12: table", x.tells(6, 0), BAD);
        Check.due("12: table", x.tells(-1, 0), BAD);
        x.table(4, -1);
        Check.due("12: missing again", x.tells(4, 0), 0);
    }
}
