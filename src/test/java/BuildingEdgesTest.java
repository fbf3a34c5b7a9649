/** The sentences of promises 1 to 12 that name a boundary case. */
public final class BuildingEdgesTest {
    private static final int BAD = Sentence.BAD, NO = Sentence.NO, NOTHING = Sentence.NOTHING, INDEX = Sentence.INDEX, NONE = Sentence.NONE;
    private static final int NOT_READ = -10000;

    public static void main(String[] args) {
        Sentence.says("promise 1", "As told", BuildingEdgesTest::newAsTold);
        Sentence.says("promise 1", "all first PULLS are 500", BuildingEdgesTest::newPulls);
        Sentence.says("promise 1", "r 20, o 30, R 300, c 3", BuildingEdgesTest::newLacing);
        Sentence.says("promise 2", "A new WHEEL with N HOLES, all as at first", BuildingEdgesTest::wheelAsAtFirst);
        Sentence.says("promise 2", "but for TABLES and LIMITS and lacing, which stay", BuildingEdgesTest::wheelKeeps);
        Sentence.says("promise 2", ": N.", BuildingEdgesTest::wheelAnswers);
        Sentence.says("promise 2", "BAD", BuildingEdgesTest::wheelBad);
        Sentence.says("promise 3", "A SPOKE has a KIND (0 .. 3, 5): what it was.", BuildingEdgesTest::kindWas);
        Sentence.says("promise 3", "BAD", BuildingEdgesTest::kindBad);
        Sentence.says("promise 3", "NO: it is GONE.", BuildingEdgesTest::kindGone);
        Sentence.says("promise 4", "A TABLE is there, with n places (0 .. 17), all 0: n", BuildingEdgesTest::tableIsThere);
        Sentence.says("promise 4", "or (n = -1) MISSING: 0.", BuildingEdgesTest::tableIsMissing);
        Sentence.says("promise 4", "BAD.", BuildingEdgesTest::tableBad);
        Sentence.says("promise 5", "A place of a TABLE is v (-1000 .. 1000): what it was.", BuildingEdgesTest::enterWas);
        Sentence.says("promise 5", "BAD: table, v", BuildingEdgesTest::enterBad);
        Sentence.says("promise 5", "NOTHING: it is MISSING", BuildingEdgesTest::enterMissing);
        Sentence.says("promise 5", "INDEX.", BuildingEdgesTest::enterIndex);
        Sentence.says("promise 6", "So many places of a TABLE, from its first on, become those of another one: many.", BuildingEdgesTest::copyMany);
        Sentence.says("promise 6", "BAD: tables", BuildingEdgesTest::copyBad);
        Sentence.says("promise 6", "NOTHING: one is MISSING", BuildingEdgesTest::copyMissing);
        Sentence.says("promise 6", "INDEX: many is below 0, or one has not so many.", BuildingEdgesTest::copyIndex);
        Sentence.says("promise 6", "(From a TABLE to another, or its own.)", BuildingEdgesTest::copyToItsOwn);
        Sentence.says("promise 7", "A place of the rim is read: v; row 0, 1", BuildingEdgesTest::readRows);
        Sentence.says("promise 7", "NOT READ: v is -10000.", BuildingEdgesTest::readNot);
        Sentence.says("promise 7", "What it was, as told (-10000: not read).", BuildingEdgesTest::readWas);
        Sentence.says("promise 7", "BAD.", BuildingEdgesTest::readBad);
        Sentence.says("promise 8", "A LIMIT is v: what it was.", BuildingEdgesTest::limitWas);
        Sentence.says("promise 8", "BAD.", BuildingEdgesTest::limitBad);
        Sentence.says("promise 9", "The PULL of a SPOKE is v now (-100000 .. 100000): what it was.", BuildingEdgesTest::tuneWas);
        Sentence.says("promise 9", "BAD", BuildingEdgesTest::tuneBad);
        Sentence.says("promise 9", "NO: it is GONE.", BuildingEdgesTest::tuneGone);
        Sentence.says("promise 10", "Of a SPOKE: what 0 KIND, 1 how it LEANS, 2 FORCE, 3 PULL.", BuildingEdgesTest::aboutGone);
        Sentence.says("promise 10", "BAD.", BuildingEdgesTest::aboutBad);
        Sentence.says("promise 11", "Whether a SPOKE is of a KIND: 1, 0.", BuildingEdgesTest::isOfGone);
        Sentence.says("promise 11", "BAD.", BuildingEdgesTest::isOfBad);
        Sentence.says("promise 12", "What a TABLE tells for d steps (0 .. 16).", BuildingEdgesTest::tellsFar);
        Sentence.says("promise 12", "BAD.", BuildingEdgesTest::tellsBad);
        Sentence.says("promises 3, 7, 9, 10, 11, of the last hole", "BAD", BuildingEdgesTest::holesEnd);
        Sentence.end();
    }

    private static void newAsTold() {
        WheelStand x = new WheelStand();
        int[] counts = {8, 8, 0, 0, 0, 0};
        int[] states = {0, 0, 0, 0, 0, 1};
        for (int what = 0; what < 6; what++) {
            Sentence.due(x, counts[what], "count", what);
            Sentence.due(x, states[what], "state", what);
            Sentence.due("places of table " + what, Observed.placesOf(x, what), -1);
        }
        Sentence.due(x, NONE, "why");
        Sentence.due(x, NONE, "next");
        Sentence.due(x, NONE, "log", 0, 0);
        Sentence.due(x, NO, "undo");
        Sentence.due(x, BAD, "about", 8, 0);
        for (int which = 0; which < 5; which++) {
            Sentence.due(x, which == 4 ? 1000 : 100, "limit", which, 1);
        }
    }

    private static void newPulls() {
        WheelStand x = new WheelStand();
        for (int s = 0; s < 8; s++) {
            Sentence.due(x, 500, "about", s, 3);
        }
    }

    private static void newLacing() {
        WheelStand x = new WheelStand();
        x.kind(0, 5);
        // straight: 100 * (90000 + 400 + 900) - 200 * 6000; c tells in h, 48 of 64
        Sentence.due(x, 2816, "length", 0);
        Sentence.due(x, 8 + 48, "hub", 1);
        WheelStand same = new WheelStand();
        same.lace(20, 30, 300, 3);
        for (int s = 0; s < 8; s++) {
            Sentence.due(new WheelStand(), same.length(s), "length", s);
            Sentence.due(new WheelStand(), same.hub(s), "hub", s);
        }
    }

    private static void wheelAsAtFirst() {
        for (int holes : new int[] {8, 16, 32}) {
            WheelStand x = new WheelStand();
            x.wheel(32);
            Sentence.fill(x, 1, 1);
            for (int i = 0; i < 32; i++) {
                x.kind(i, 3);
                x.read(0, i, 7);
                x.read(1, i, 8);
                x.turn(i, -1);
            }
            x.snap(0);
            x.snap(31);
            Sentence.due(x, holes, "wheel", holes);
            int[] counts = {holes, holes, 0, 0, 0, 0};
            for (int what = 0; what < 6; what++) {
                Sentence.due(x, counts[what], "count", what);
            }
            for (int i = 0; i < holes; i++) {
                Sentence.due(x, i % 2 == 0 ? 1 : 2, "about", i, 0);
                Sentence.due(x, 500, "about", i, 3);
                Sentence.due(x, 0, "unbent", 0, i);
                Sentence.due(x, 0, "reading", 1, i);
            }
            Sentence.due(x, NO, "undo");
            Sentence.due(x, NONE, "log", 0, 0);
        }
    }

    private static void wheelKeeps() {
        WheelStand x = new WheelStand();
        for (int table = 0; table < 6; table++) {
            Sentence.fill(x, table, table + 1, -table, 1000);
        }
        x.table(3, -1);
        x.table(4, 0);
        for (int which = 0; which < 5; which++) {
            x.limit(which, 11 + which);
        }
        x.lace(50, 60, 700, 1);
        x.wheel(16);
        int[] places = {3, 3, 3, -1, 0, 3};
        for (int table = 0; table < 6; table++) {
            Sentence.due("places of table " + table, Observed.placesOf(x, table), places[table]);
            Sentence.due(x, places[table] == 3 ? table + 1 : 0, "tells", table, 0);
            Sentence.due(x, places[table] == 3 ? -table : 0, "tells", table, 1);
        }
        for (int which = 0; which < 5; which++) {
            Sentence.due(x, 11 + which, "limit", which, 1);
        }
        Sentence.due(x, 8, "hub", 0);
        x.kind(0, 5);
        // 100 * (490000 + 2500 + 3600) - 200 * 35000
        Sentence.due(x, 6527, "length", 0);
    }

    private static void wheelAnswers() {
        WheelStand x = new WheelStand();
        for (int holes : new int[] {8, 16, 32, 32, 16, 8}) {
            Sentence.due(x, holes, "wheel", holes);
            Sentence.due(x, holes, "count", 0);
        }
    }

    private static void wheelBad() {
        for (int holes : new int[] {Integer.MIN_VALUE, -8, -1, 0, 1, 4, 7, 9, 12, 15, 17, 24, 31, 33, 64, Integer.MAX_VALUE}) {
            Sentence.keepsAll(BAD, "wheel", holes);
        }
    }

    private static void kindWas() {
        WheelStand x = new WheelStand();
        int was = 2;
        for (int kind : new int[] {0, 3, 5, 1, 2, 2, 3, 0, 5}) {
            Sentence.due(x, was, "kind", 7, kind);
            Sentence.due(x, kind, "about", 7, 0);
            Sentence.due(x, 500, "about", 7, 3);
            was = kind;
        }
    }

    private static void kindBad() {
        Sentence.takesOnly(0, 0, 7, "kind", 0, 2);
        Sentence.takesOnly(1, 0, 5, "kind", 0, 2);
        Sentence.keepsAll(BAD, "kind", 0, 4);
        // of several the first: spoke 7 is gone
        Sentence.keepsAll(BAD, "kind", 7, 4);
        Sentence.keepsAll(BAD, "kind", 7, 6);
    }

    private static void kindGone() {
        for (int kind : new int[] {0, 1, 2, 3, 5}) {
            Sentence.keepsAll(NO, "kind", 7, kind);
        }
    }

    private static void tableIsThere() {
        for (int n = 0; n <= 17; n++) {
            WheelStand x = new WheelStand();
            Sentence.due(x, n, "table", 2, n);
            Sentence.due("places", Observed.placesOf(x, 2), n);
            for (int i = 0; i < n; i++) {
                Sentence.due(x, 0, "enter", 2, i, 9);
            }
            Sentence.due(x, INDEX, "enter", 2, n, 9);
            Sentence.due(x, n, "table", 2, n);
            for (int steps = 0; steps < 17; steps++) {
                Sentence.due(x, 0, "tells", 2, steps);
            }
        }
    }

    private static void tableIsMissing() {
        for (int table = 0; table < 6; table++) {
            WheelStand x = new WheelStand();
            Sentence.due(x, 0, "table", table, -1);
            Sentence.fill(x, table, 3, 4);
            Sentence.due(x, 0, "table", table, -1);
            Sentence.due(x, NOTHING, "enter", table, 0, 1);
            Sentence.due(x, 0, "tells", table, 0);
            // what is there anew has nothing of what was
            Sentence.due(x, 2, "table", table, 2);
            Sentence.due(x, 0, "enter", table, 1, 1);
        }
    }

    private static void tableBad() {
        Sentence.takesOnly(0, 0, 5, "table", 0, 2);
        Sentence.takesOnly(1, -1, 17, "table", 0, 2);
    }

    private static void enterWas() {
        WheelStand x = new WheelStand();
        x.table(5, 17);
        for (int place : new int[] {0, 16}) {
            Sentence.due(x, 0, "enter", 5, place, -1000);
            Sentence.due(x, -1000, "enter", 5, place, 1000);
            Sentence.due(x, 1000, "enter", 5, place, 0);
            Sentence.due(x, 0, "enter", 5, place, 12);
        }
        Sentence.due(x, 0, "tells", 5, 1);
        Sentence.due(x, 0, "tells", 5, 15);
    }

    private static void enterBad() {
        Sentence.takesOnly(0, 0, 5, "enter", 0, 0, 7);
        Sentence.takesOnly(2, -1000, 1000, "enter", 0, 0, 7);
        // of several the first: table 5 is missing, table 0 has 3 places
        Sentence.keepsAll(BAD, "enter", 5, 0, 1001);
        Sentence.keepsAll(BAD, "enter", 5, 0, -1001);
        Sentence.keepsAll(BAD, "enter", 0, 3, 1001);
        Sentence.keepsAll(BAD, "enter", -1, -1, 1001);
    }

    private static void enterMissing() {
        Sentence.keepsAll(NOTHING, "enter", 5, 0, 7);
        Sentence.keepsAll(NOTHING, "enter", 5, -1, 7);
        Sentence.keepsAll(NOTHING, "enter", 5, 17, 7);
    }

    private static void enterIndex() {
        for (int place : new int[] {-1, 3, 16, 17, Integer.MIN_VALUE, Integer.MAX_VALUE}) {
            Sentence.keepsAll(INDEX, "enter", 0, place, 7);
        }
        // table 3 is there, but has no place
        Sentence.keepsAll(INDEX, "enter", 3, 0, 7);
        WheelStand x = new WheelStand();
        x.table(0, 17);
        Sentence.due(x, INDEX, "enter", 0, 17, 7);
        Sentence.due(x, 0, "enter", 0, 16, 7);
    }

    private static void copyMany() {
        for (int many = 0; many <= 3; many++) {
            WheelStand x = new WheelStand();
            Sentence.fill(x, 0, 1, 2, 3);
            Sentence.fill(x, 5, 11, 12, 13, 14);
            Sentence.due(x, many, "copy", 0, 5, many);
            for (int i = 0; i < 4; i++) {
                Sentence.due(x, i < many ? i + 1 : i + 11, "tells", 5, i);
                Sentence.due(x, i < 3 ? i + 1 : 0, "tells", 0, i);
            }
            Sentence.due("places", Observed.placesOf(x, 5), 4);
        }
        WheelStand full = new WheelStand();
        full.table(1, 17);
        full.table(2, 17);
        full.enter(1, 16, 5);
        Sentence.due(full, 17, "copy", 1, 2, 17);
        Sentence.due(full, 5, "tells", 2, 16);
        full.table(3, 0);
        Sentence.due(full, 0, "copy", 3, 1, 0);
        Sentence.due(full, 0, "copy", 1, 3, 0);
    }

    private static void copyBad() {
        Sentence.takesOnly(0, 0, 5, "copy", 0, 1, 1);
        Sentence.takesOnly(1, 0, 5, "copy", 0, 1, 1);
        // of several the first: table 5 is missing, and no table has so many
        Sentence.keepsAll(BAD, "copy", 5, 6, 99);
        Sentence.keepsAll(BAD, "copy", 6, 5, -1);
    }

    private static void copyMissing() {
        Sentence.keepsAll(NOTHING, "copy", 5, 0, 1);
        Sentence.keepsAll(NOTHING, "copy", 0, 5, 1);
        Sentence.keepsAll(NOTHING, "copy", 5, 5, 0);
        Sentence.keepsAll(NOTHING, "copy", 0, 5, -1);
        Sentence.keepsAll(NOTHING, "copy", 5, 0, 18);
    }

    private static void copyIndex() {
        // table 0 has 3 places, table 1 has 2, table 3 none
        Sentence.keepsAll(INDEX, "copy", 0, 1, -1);
        Sentence.keepsAll(INDEX, "copy", 0, 1, Integer.MIN_VALUE);
        Sentence.keepsAll(INDEX, "copy", 0, 1, 3);
        Sentence.keepsAll(INDEX, "copy", 1, 0, 3);
        Sentence.keepsAll(INDEX, "copy", 0, 2, 4);
        Sentence.keepsAll(INDEX, "copy", 2, 0, 4);
        Sentence.keepsAll(INDEX, "copy", 3, 2, 1);
        Sentence.keepsAll(INDEX, "copy", 2, 3, 1);
        Sentence.keepsAll(INDEX, "copy", 2, 0, Integer.MAX_VALUE);
    }

    private static void copyToItsOwn() {
        for (int many = 0; many <= 5; many++) {
            Sentence.keepsAll(many, "copy", 2, 2, many);
        }
        Sentence.keepsAll(INDEX, "copy", 2, 2, 6);
        Sentence.keepsAll(0, "copy", 3, 3, 0);
    }

    private static void readRows() {
        WheelStand x = new WheelStand();
        for (int v : new int[] {9999, -9999, 0}) {
            x.read(0, 0, v);
            Sentence.due(x, v, "unbent", 0, 0);
            Sentence.due(x, 0, "unbent", 1, 0);
        }
        x.read(1, 7, -9999);
        Sentence.due(x, 0, "unbent", 0, 7);
        Sentence.due(x, -9999, "unbent", 1, 7);
        Sentence.due(x, 1, "count", 4);
        Sentence.due(x, 1, "count", 5);
    }

    private static void readNot() {
        WheelStand x = new WheelStand();
        x.read(0, 2, 50);
        x.read(0, 6, 70);
        Sentence.due(x, 50, "read", 0, 2, NOT_READ);
        Sentence.due(x, 70, "unbent", 0, 2);
        Sentence.due(x, 1, "count", 4);
        Sentence.due(x, 70, "read", 0, 6, NOT_READ);
        Sentence.due(x, 0, "unbent", 0, 2);
        Sentence.due(x, 0, "count", 4);
        Sentence.due(x, NOT_READ, "read", 0, 6, NOT_READ);
    }

    private static void readWas() {
        WheelStand x = new WheelStand();
        Sentence.due(x, NOT_READ, "read", 0, 3, -9999);
        Sentence.due(x, -9999, "read", 0, 3, 0);
        Sentence.due(x, 0, "read", 0, 3, 9999);
        Sentence.due(x, 9999, "read", 0, 3, 9999);
        // what lies between, and what turns made, was not read
        Sentence.due(x, NOT_READ, "read", 0, 4, 1);
        Sentence.fill(x, 0, 6);
        x.turn(4, 1);
        Sentence.due(x, 1, "read", 0, 4, 2);
    }

    private static void readBad() {
        Sentence.takesOnly(0, 0, 1, "read", 0, 0, 5);
        Sentence.takesOnly(1, 0, 7, "read", 0, 0, 5);
        Sentence.takesOnly(2, NOT_READ, 9999, "read", 0, 0, 5);
    }

    private static void limitWas() {
        for (int which = 0; which < 5; which++) {
            WheelStand x = new WheelStand();
            Sentence.due(x, which == 4 ? 1000 : 100, "limit", which, 1000000);
            Sentence.due(x, 1000000, "limit", which, 1);
            Sentence.due(x, 1, "limit", which, 1);
            for (int other = 0; other < 5; other++) {
                Sentence.due(x, other == which ? 1 : other == 4 ? 1000 : 100, "limit", other, 5);
            }
        }
    }

    private static void limitBad() {
        Sentence.takesOnly(0, 0, 4, "limit", 0, 5);
        for (int which = 0; which < 5; which++) {
            Sentence.takesOnly(1, 1, 1000000, "limit", which, 5);
        }
    }

    private static void tuneWas() {
        WheelStand x = new WheelStand();
        Sentence.due(x, 500, "tune", 0, 100000);
        Sentence.due(x, 100000, "tune", 0, -100000);
        Sentence.due(x, -100000, "tune", 0, 0);
        Sentence.due(x, 0, "about", 0, 3);
        Sentence.due(x, 500, "about", 1, 3);
        // LIMIT 4 is of turns alone
        x.limit(4, 1);
        Sentence.due(x, 500, "tune", 1, 100000);
    }

    private static void tuneBad() {
        Sentence.takesOnly(0, 0, 7, "tune", 0, 5);
        Sentence.takesOnly(1, -100000, 100000, "tune", 0, 5);
        // of several the first: spoke 7 is gone
        Sentence.keepsAll(BAD, "tune", 7, 100001);
        Sentence.keepsAll(BAD, "tune", 7, -100001);
    }

    private static void tuneGone() {
        Sentence.keepsAll(NO, "tune", 7, 0);
        Sentence.keepsAll(NO, "tune", 7, 100000);
    }

    private static void aboutGone() {
        int[] gone = {4, 0, 0, 0};
        for (int what = 0; what < 4; what++) {
            Sentence.keepsAll(gone[what], "about", 7, what);
        }
        // spoke 1 is thick and was turned back once: 500 - 2 * 60
        int[] thick = {3, -1, 2, 380};
        for (int what = 0; what < 4; what++) {
            Sentence.keepsAll(thick[what], "about", 1, what);
        }
    }

    private static void aboutBad() {
        Sentence.takesOnly(0, 0, 7, "about", 0, 0);
        Sentence.takesOnly(1, 0, 3, "about", 0, 0);
    }

    private static void isOfGone() {
        int[] gone = {1, 0, 0, 0, 1, 0};
        int[] spoke = {1, 0, 0, 0, 0, 0};
        for (int kind = 0; kind < 6; kind++) {
            Sentence.keepsAll(gone[kind], "isOf", 7, kind);
            Sentence.keepsAll(spoke[kind], "isOf", 4, kind);
        }
    }

    private static void isOfBad() {
        Sentence.takesOnly(0, 0, 7, "isOf", 0, 0);
        Sentence.takesOnly(1, 0, 5, "isOf", 0, 0);
    }

    private static void tellsFar() {
        WheelStand x = new WheelStand();
        x.table(0, 17);
        x.enter(0, 16, -1000);
        x.enter(0, 0, 1000);
        // steps that a wheel of 8 holes has not are told, too
        Sentence.due(x, -1000, "tells", 0, 16);
        Sentence.due(x, 1000, "tells", 0, 0);
        Sentence.due(x, 0, "tells", 0, 15);
    }

    private static void tellsBad() {
        Sentence.takesOnly(0, 0, 5, "tells", 0, 0);
        Sentence.takesOnly(1, 0, 16, "tells", 0, 0);
    }

    private static void holesEnd() {
        Sentence.takesHoles(0, "kind", 0, 1);
        Sentence.takesHoles(1, "read", 0, 0, 5);
        Sentence.takesHoles(1, "read", 1, 0, -10000);
        Sentence.takesHoles(0, "tune", 0, 7);
        Sentence.takesHoles(0, "about", 0, 3);
        Sentence.takesHoles(0, "isOf", 0, 0);
    }
}
