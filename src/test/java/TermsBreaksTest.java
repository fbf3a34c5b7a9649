/** The terms' part 4, breaks, anew and loads: sentences that name a boundary case. */
public final class TermsBreaksTest {
    private static final int NO = Sentence.NO;
    private static final int BREAK = 4, LOAD = 5;

    public static void main(String[] args) {
        Sentence.says("terms 4", "SPOKE s, that is not GONE, with PULL v", TermsBreaksTest::notGone);
        Sentence.says("terms 4", "each other one j that is not GONE gets v * BREAK[d] / 1000 more", TermsBreaksTest::othersGet);
        Sentence.says("terms 4, towards below", "v * BREAK[d] / 1000", TermsBreaksTest::cutTowardsBelow);
        Sentence.says("terms 4", "s is GONE then, its PULL 0", TermsBreaksTest::goneThen);
        Sentence.says("terms 4", "ANEW: one that is GONE gets a KIND (but GONE) and a PULL", TermsBreaksTest::anew);
        Sentence.says("terms 4", "others stay as they are", TermsBreaksTest::othersStay);
        Sentence.says("terms 4", "A LOAD w at place p: the PULL of SPOKE j that is not GONE would be less by w * LOAD[d] / 1000", TermsBreaksTest::load);
        Sentence.end();
    }

    private static void notGone() {
        WheelStand x = new WheelStand();
        Sentence.fill(x, BREAK, 1000, 1000);
        Sentence.due(x, 500, "snap", 0);
        Sentence.due(x, NO, "snap", 0);
        Sentence.due(x, 1000, "about", 1, 3);
        // all can break, and the last one finds none
        for (int s = 1; s < 7; s++) {
            x.snap(s);
        }
        int had = x.about(7, 3);
        Sentence.due(x, had, "snap", 7);
        Sentence.due(x, 0, "count", 1);
        for (int s = 0; s < 8; s++) {
            Sentence.due(x, NO, "snap", s);
        }
    }

    private static void othersGet() {
        WheelStand x = new WheelStand();
        Sentence.fill(x, BREAK, 1000, 100, -200, 0, 1000);
        x.snap(1);
        int[] due = {550, 0, 550, 400, 500, 1000, 500, 400};
        for (int j = 0; j < 8; j++) {
            Sentence.due(x, due[j], "about", j, 3);
        }
        // those that are gone get nothing; kinds and leaning are not asked
        x.kind(2, 0);
        x.kind(7, 3);
        x.snap(0);
        int[] then = {0, 0, 440, 400, 1050, 1000, 390, 455};
        for (int j = 0; j < 8; j++) {
            Sentence.due(x, then[j], "about", j, 3);
        }
    }

    private static void cutTowardsBelow() {
        int[] pulls = {0, 1, 999, 1000, 1001, -1, -999, -1000, -1001};
        int[] due = {0, 0, 0, 1, 1, -1, -1, -1, -2};
        for (int i = 0; i < pulls.length; i++) {
            WheelStand x = new WheelStand();
            Sentence.fill(x, BREAK, 0, 1, -1);
            x.tune(0, pulls[i]);
            Sentence.due(x, pulls[i], "snap", 0);
            Sentence.due(x, 500 + due[i], "about", 1, 3);
            Sentence.due(x, 500 + Math.floorDiv(-pulls[i], 1000), "about", 2, 3);
        }
        // the most that is tuned, by the most that a table has
        for (int way = -1; way <= 1; way += 2) {
            WheelStand x = new WheelStand();
            Sentence.fill(x, BREAK, 0, 1000, -1000);
            x.tune(0, way * 100000);
            x.snap(0);
            Sentence.due(x, 500 + way * 100000, "about", 7, 3);
            Sentence.due(x, 500 - way * 100000, "about", 6, 3);
        }
    }

    private static void goneThen() {
        WheelStand x = new WheelStand();
        Sentence.fill(x, BREAK, 1000);
        x.snap(7);
        int[] gone = {4, 0, 0, 0};
        for (int what = 0; what < 4; what++) {
            Sentence.due(x, gone[what], "about", 7, what);
        }
        Sentence.due(x, 7, "count", 1);
        // what was loose is so no more
        x.tune(6, -5);
        Sentence.due(x, -5, "snap", 6);
        Sentence.due(x, 0, "about", 6, 3);
        Sentence.due(x, 0, "state", 4);
    }

    private static void anew() {
        for (int kind : new int[] {0, 1, 2, 3, 5}) {
            WheelStand x = new WheelStand();
            Sentence.due(x, NO, "anew", 7, kind, 5);
            x.snap(7);
            Sentence.due(x, Sentence.BAD, "anew", 7, 4, 5);
            Sentence.due(x, 0, "anew", 7, kind, 5);
            Sentence.due(x, kind, "about", 7, 0);
            Sentence.due(x, 5, "about", 7, 3);
            Sentence.due(x, 8, "count", 1);
            Sentence.due(x, NO, "anew", 7, kind, 5);
        }
    }

    private static void othersStay() {
        WheelStand x = new WheelStand();
        Sentence.fill(x, BREAK, 0, 100, 100, 100, 100);
        x.snap(0);
        x.snap(4);
        x.anew(0, 1, 100000);
        int[] due = {100000, 605, 605, 605, 0, 605, 605, 605};
        for (int j = 0; j < 8; j++) {
            Sentence.due(x, due[j], "about", j, 3);
        }
        Sentence.due(x, 4, "about", 4, 0);
        Sentence.due(x, 2, "about", 1, 0);
    }

    private static void load() {
        WheelStand x = new WheelStand();
        Sentence.fill(x, LOAD, 1000, 1, -1);
        int[] loads = {0, 1, 999, 1000, 1001, 100000};
        int[] due = {500, 500, 500, 499, 499, 400};
        int[] other = {500, 501, 501, 501, 502, 600};
        for (int i = 0; i < loads.length; i++) {
            Sentence.due(x, 500 - loads[i], "loaded", loads[i], 7, 7);
            Sentence.due(x, due[i], "loaded", loads[i], 7, 0);
            Sentence.due(x, other[i], "loaded", loads[i], 7, 1);
            Sentence.due(x, 500, "loaded", loads[i], 7, 3);
        }
        x.snap(7);
        Sentence.due(x, 0, "loaded", 1000, 7, 7);
        // where a spoke is gone there is a place still
        Sentence.due(x, 499, "loaded", 1000, 7, 6);
    }
}
