/** The sentences of promises 23 to 26 that name a boundary case. */
public final class BreaksEdgesTest {
    private static final int BAD = Sentence.BAD, NO = Sentence.NO;
    private static final int PULL = 2, BREAK = 4, LOAD = 5;

    public static void main(String[] args) {
        Sentence.says("promise 23", "A SPOKE BREAKS: the PULL it had.", BreaksEdgesTest::snap);
        Sentence.says("promise 23", "BAD", BreaksEdgesTest::snapBad);
        Sentence.says("promise 23", "NO: it is GONE", BreaksEdgesTest::snapGone);
        Sentence.says("promise 23", "or some PULL would be of a size above 100000000", BreaksEdgesTest::snapTooMuch);
        Sentence.says("promise 23, of one far off", "some PULL would be of a size above 100000000", BreaksEdgesTest::snapTooMuchElsewhere);
        Sentence.says("promise 24", "A SPOKE is put ANEW: 0.", BreaksEdgesTest::anew);
        Sentence.says("promise 24", "BAD: spoke, kind (0 .. 3, 5), pull (0 .. 100000)", BreaksEdgesTest::anewBad);
        Sentence.says("promise 24", "NO: it is not GONE.", BreaksEdgesTest::anewNo);
        Sentence.says("promise 25", "With a LOAD w (0 .. 100000) at a place: the PULL of a SPOKE", BreaksEdgesTest::loaded);
        Sentence.says("promise 25", "(0, if it is GONE)", BreaksEdgesTest::loadedGone);
        Sentence.says("promise 25", "BAD.", BreaksEdgesTest::loadedBad);
        Sentence.says("promise 26", "the place (of several the least)", BreaksEdgesTest::worstAtLeast);
        Sentence.says("promise 26", "at which most SPOKES that are not GONE would have a PULL below 0", BreaksEdgesTest::worstAtMost);
        Sentence.says("promise 26", "BAD.", BreaksEdgesTest::worstAtBad);
        Sentence.end();
    }

    private static void snap() {
        for (int v : new int[] {-100000, -1, 0, 1, 100000}) {
            for (int spoke : new int[] {0, 7}) {
                WheelStand x = new WheelStand();
                x.tune(spoke, v);
                Sentence.due(x, v, "snap", spoke);
                Sentence.due(x, 7, "count", 1);
            }
        }
    }

    private static void snapBad() {
        Sentence.takesOnly(0, 0, 7, "snap", 0);
        Sentence.takesHoles(0, "snap", 0);
    }

    private static void snapGone() {
        Sentence.keepsAll(NO, "snap", 7);
    }

    /** Spoke 1 has 100000000 in the end, that way: 0 and 2 give it what they have, again and again, 256 times 390625. */
    private static void heavy(WheelStand x, int way) {
        x.table(BREAK, 2);
        x.enter(BREAK, 1, 1000);
        for (int s = 0; s < 8; s++) {
            x.tune(s, 0);
        }
        x.snap(3);
        x.snap(7);
        for (int v : new int[] {100000, 100000, 100000, 90625}) {
            x.tune(0, way * v);
            x.snap(0);
            x.anew(0, 1, 0);
        }
        for (int i = 0; i < 8; i++) {
            x.snap(1);
            x.anew(1, 2, 0);
            x.snap(0);
            x.snap(2);
            x.anew(0, 1, 0);
            x.anew(2, 1, 0);
        }
    }

    private static void snapTooMuch() {
        for (int w = -1; w <= 1; w += 2) {
            int way = w;
            WheelStand x = new WheelStand();
            heavy(x, way);
            Sentence.due(x, 100000000 * way, "about", 1, 3);
            // at the most it is borne: a break far off, and one that gives nothing
            Sentence.due(x, 0, "snap", 5);
            Sentence.due(x, 0, "snap", 0);
            // one more is too much, one less is borne
            x.tune(2, way);
            Sentence.due(x, NO, "snap", 2);
            Sentence.due(x, 1, "about", 2, 0);
            Sentence.due(x, way, "about", 2, 3);
            x.tune(2, -way);
            Sentence.due(x, -way, "snap", 2);
            Sentence.due(x, 99999999 * way, "about", 1, 3);
            // the one that breaks may have any PULL
            Sentence.due(x, 99999999 * way, "snap", 1);
            // what it would give the others counts: 1000 thousandths of all it has, and 1 that is there
            Sentence.keepsAll(y -> {
                heavy(y, way);
                y.tune(0, way);
            }, NO, "snap", 1);
            Sentence.keepsAll(y -> {
                heavy(y, way);
                y.tune(2, way);
            }, NO, "snap", 1);
            WheelStand z = new WheelStand();
            heavy(z, way);
            Sentence.due(z, 100000000 * way, "snap", 1);
            Sentence.due(z, 100000000 * way, "about", 0, 3);
            Sentence.due(z, 100000000 * way, "about", 2, 3);
        }
    }

    /** A turn back can make a PULL lower still; then no other one breaks, however far off, until it is not so. */
    private static void snapTooMuchElsewhere() {
        WheelStand x = new WheelStand();
        heavy(x, -1);
        Sentence.fill(x, PULL, 1);
        Sentence.due(x, -100000001, "turn", 1, -1);
        Sentence.due(x, NO, "snap", 5);
        Sentence.due(x, NO, "snap", 0);
        Sentence.due(x, 0, "undo");
        Sentence.due(x, 0, "snap", 5);
        // its own PULL does not count, as it has none then
        x.turn(1, -1);
        x.table(BREAK, -1);
        Sentence.due(x, -100000001, "snap", 1);
    }

    private static void anew() {
        for (int pull : new int[] {0, 1, 99999, 100000}) {
            WheelStand x = new WheelStand();
            Sentence.worked(x);
            Sentence.due(x, 0, "anew", 7, 3, pull);
            Sentence.due(x, 3, "about", 7, 0);
            Sentence.due(x, pull, "about", 7, 3);
        }
        // LIMIT 4 is of turns alone
        WheelStand y = new WheelStand();
        y.limit(4, 1);
        y.snap(0);
        Sentence.due(y, 0, "anew", 0, 5, 100000);
    }

    private static void anewBad() {
        Sentence.takesOnly(0, 0, 7, "anew", 7, 1, 5);
        Sentence.takesOnly(1, 0, 5, "anew", 7, 1, 5);
        Sentence.takesOnly(2, 0, 100000, "anew", 7, 1, 5);
        Sentence.keepsAll(BAD, "anew", 7, 4, 5);
        Sentence.takesHoles(0, "anew", 0, 1, 5);
        // of several the first: spoke 0 is not gone
        Sentence.keepsAll(BAD, "anew", 0, 4, 5);
        Sentence.keepsAll(BAD, "anew", 0, 6, 5);
        Sentence.keepsAll(BAD, "anew", 0, 1, -1);
        Sentence.keepsAll(BAD, "anew", 0, 1, 100001);
    }

    private static void anewNo() {
        for (int spoke = 0; spoke < 7; spoke++) {
            Sentence.keepsAll(NO, "anew", spoke, 1, 5);
        }
        Sentence.keepsAll(x -> {
            Sentence.worked(x);
            x.anew(7, 2, 486);
        }, NO, "anew", 7, 1, 5);
    }

    private static void withLoad(WheelStand x) {
        x.table(LOAD, 5);
        for (int d = 0; d < 5; d++) {
            x.enter(LOAD, d, new int[] {1000, 101, -101, 0, -1000}[d]);
        }
        x.snap(3);
    }

    private static void loaded() {
        int[] due = {500 - 100000, 500 - 10100, 500 + 10100, 0, 500 + 100000, 500, 500 + 10100, 500 - 10100};
        for (int spoke = 0; spoke < 8; spoke++) {
            Sentence.keepsAll(BreaksEdgesTest::withLoad, due[spoke], "loaded", 100000, 0, spoke);
            Sentence.keepsAll(BreaksEdgesTest::withLoad, spoke == 3 ? 0 : 500, "loaded", 0, 7, spoke);
        }
        Sentence.keepsAll(BreaksEdgesTest::withLoad, 500 - 10, "loaded", 100, 7, 0);
        Sentence.keepsAll(BreaksEdgesTest::withLoad, 500 + 11, "loaded", 100, 7, 1);
    }

    private static void loadedGone() {
        for (int place = 0; place < 8; place++) {
            Sentence.keepsAll(BreaksEdgesTest::withLoad, 0, "loaded", 100000, place, 3);
        }
    }

    private static void loadedBad() {
        Sentence.takesOnly(0, 0, 100000, "loaded", 5, 0, 0);
        Sentence.takesOnly(1, 0, 7, "loaded", 5, 0, 0);
        Sentence.takesOnly(2, 0, 7, "loaded", 5, 0, 0);
        Sentence.takesHoles(1, "loaded", 5, 0, 0);
        Sentence.takesHoles(2, "loaded", 5, 0, 0);
        // of one that is gone, too
        Sentence.keepsAll(BAD, "loaded", -1, 0, 7);
        Sentence.keepsAll(BAD, "loaded", 100001, 0, 7);
    }

    private static void worstAtLeast() {
        // none is below 0 anywhere
        Sentence.due(new WheelStand(), 0, "worstAt", 100000);
        Sentence.keepsAll(0, "worstAt", 0);
        WheelStand x = new WheelStand();
        Sentence.fill(x, LOAD, 1000);
        Sentence.due(x, 0, "worstAt", 500);
        Sentence.due(x, 0, "worstAt", 501);
        // a place of as many does not count more for lying further on
        x.tune(7, 400);
        x.tune(5, 400);
        Sentence.due(x, 5, "worstAt", 401);
        x.tune(5, 401);
        Sentence.due(x, 7, "worstAt", 401);
        // all are below 0 everywhere, and all are gone
        for (int s = 0; s < 8; s++) {
            x.tune(s, -1);
        }
        Sentence.due(x, 0, "worstAt", 0);
        for (int s = 0; s < 8; s++) {
            x.snap(s);
        }
        Sentence.due(x, 0, "worstAt", 100000);
    }

    private static void worstAtMost() {
        WheelStand x = new WheelStand();
        Sentence.fill(x, LOAD, 1000, 500);
        // at 7: 7 itself, and 6 and 0 beside it; elsewhere one or two
        x.tune(6, 499);
        x.tune(0, 499);
        Sentence.due(x, 0, "worstAt", 998);
        Sentence.due(x, 7, "worstAt", 1000);
        // at just 0 it is not below
        x.tune(0, 500);
        x.tune(6, 500);
        Sentence.due(x, 0, "worstAt", 1000);
        Sentence.due(x, 0, "worstAt", 1001);
        // one that is gone has no PULL that could be below 0
        x.tune(2, 499);
        x.tune(4, 499);
        Sentence.due(x, 3, "worstAt", 1000);
        x.snap(4);
        Sentence.due(x, 1, "worstAt", 1000);
        x.snap(1);
        Sentence.due(x, 3, "worstAt", 1000);
        // what is loose without it counts, but a load that pulls can mend it
        WheelStand y = new WheelStand();
        Sentence.fill(y, LOAD, -1000);
        y.tune(0, -1);
        Sentence.due(y, 0, "worstAt", 0);
        Sentence.due(y, 1, "worstAt", 1);
    }

    private static void worstAtBad() {
        Sentence.takesOnly(0, 0, 100000, "worstAt", 5);
    }
}
