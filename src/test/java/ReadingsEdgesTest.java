/** The sentences of promises 13 to 16 that name a boundary case. */
public final class ReadingsEdgesTest {
    private static final int NONE = Sentence.NONE;

    public static void main(String[] args) {
        Sentence.says("promise 13", "The rim as it is unbent: row, place.", ReadingsEdgesTest::unbent);
        Sentence.says("promise 13", "BAD.", ReadingsEdgesTest::unbentBad);
        Sentence.says("promise 14", "The READING: row 0 SIDE, 1 UP; place.", ReadingsEdgesTest::reading);
        Sentence.says("promise 14", "BAD.", ReadingsEdgesTest::readingBad);
        Sentence.says("promise 15", "MIDDLE (what 0), SPREAD of those that LEAN 1 (1), -1 (2), WORST (3)", ReadingsEdgesTest::state);
        Sentence.says("promise 15", "how many SPOKES are LOOSE (4)", ReadingsEdgesTest::stateLoose);
        Sentence.says("promise 15", "whether it is WITHIN (1, 0: 5)", ReadingsEdgesTest::stateWithin);
        Sentence.says("promise 15", "BAD.", ReadingsEdgesTest::stateBad);
        Sentence.says("promise 16", "The first that is not within", ReadingsEdgesTest::whyFirst);
        Sentence.says("promise 16", "0 SIDE and its place, 100 UP and its place", ReadingsEdgesTest::whyPlaces);
        Sentence.says("promise 16", "200 MIDDLE, 300 SPREAD (left), 301 (right)", ReadingsEdgesTest::whyNumbers);
        Sentence.says("promise 16", "400 the least LOOSE SPOKE", ReadingsEdgesTest::whyLoose);
        Sentence.says("promise 16", "NONE: it is WITHIN.", ReadingsEdgesTest::whyNone);
        Sentence.end();
    }

    private static void unbent() {
        // 30 is read at 1, -41 at 6; turns do not tell in it
        int[] due = {6, 30, 15, 1, -13, -27, -41, -18};
        for (int place = 0; place < 8; place++) {
            Sentence.keepsAll(due[place], "unbent", 0, place);
            Sentence.keepsAll(7, "unbent", 1, place);
        }
    }

    private static void unbentBad() {
        Sentence.takesOnly(0, 0, 1, "unbent", 0, 0);
        Sentence.takesOnly(1, 0, 7, "unbent", 0, 0);
        Sentence.takesHoles(1, "unbent", 1, 0);
    }

    private static void reading() {
        // spoke 0 was turned 1, as LEFT; spoke 1 -1, as THICK
        int[] side = {6 + 40 + 20, 30 + 10 + 80, 15 - 3 + 20, 1 - 6, -13, -27, -41 - 3, -18 + 10 - 6};
        int[] up = {7 + 5 + 4, 7 - 2 - 10, 7 + 4, 7, 7, 7, 7, 7 - 2};
        for (int place = 0; place < 8; place++) {
            Sentence.keepsAll(side[place], "reading", 0, place);
            Sentence.keepsAll(up[place], "reading", 1, place);
        }
    }

    private static void readingBad() {
        Sentence.takesOnly(0, 0, 1, "reading", 0, 0);
        Sentence.takesOnly(1, 0, 7, "reading", 0, 0);
        Sentence.takesHoles(1, "reading", 0, 0);
    }

    private static void state() {
        // SIDE together 66 + 120 + 32 - 5 - 13 - 27 - 44 - 14
        Sentence.keepsAll(115 / 8, "state", 0);
        // LEFT: 0 has 500 + 60 + 145, 2 has 507, 6 has 507 + 145
        Sentence.keepsAll(705 - 507, "state", 1);
        // RIGHT: 1 has 500 - 120, 3 has 450 - 14, 5 has 500 - 4
        Sentence.keepsAll(496 - 380, "state", 2);
        // 120 of SIDE at 1, by 90
        Sentence.keepsAll(1333, "state", 3);
    }

    private static void stateLoose() {
        for (int holes : new int[] {8, 16, 32}) {
            WheelStand x = new WheelStand();
            x.wheel(holes);
            Sentence.due(x, 0, "state", 4);
            for (int s = 0; s < holes; s++) {
                x.tune(s, -1);
                Sentence.due(x, s + 1, "state", 4);
            }
            x.tune(holes - 1, 0);
            Sentence.due(x, holes - 1, "state", 4);
            x.snap(0);
            Sentence.due(x, holes - 2, "state", 4);
        }
    }

    private static void stateWithin() {
        WheelStand x = new WheelStand();
        Sentence.due(x, 1, "state", 5);
        x.read(1, 0, 100);
        Sentence.due(x, 1, "state", 5);
        x.read(1, 0, 101);
        Sentence.due(x, 0, "state", 5);
        Sentence.keepsAll(0, "state", 5);
    }

    private static void stateBad() {
        Sentence.takesOnly(0, 0, 5, "state", 0);
    }

    /** From the last to the first: each that is added stands ahead of those that are there. */
    private static void whyFirst() {
        WheelStand x = new WheelStand();
        x.kind(7, 0);
        x.tune(7, -1);
        Sentence.due(x, 407, "why");
        x.kind(0, 0);
        x.tune(0, -1);
        Sentence.due(x, 400, "why");
        x.tune(1, 601);
        Sentence.due(x, 301, "why");
        x.tune(2, 601);
        Sentence.due(x, 300, "why");
        x.limit(0, 1000);
        x.read(0, 0, 101);
        Sentence.due(x, 200, "why");
        x.read(1, 0, 0);
        x.read(1, 7, -101);
        Sentence.due(x, 107, "why");
        x.read(1, 0, -101);
        Sentence.due(x, 100, "why");
        x.read(0, 1, 101);
        x.read(0, 7, 1001);
        Sentence.due(x, 7, "why");
        x.read(0, 0, -1001);
        Sentence.due(x, 0, "why");
    }

    private static void whyPlaces() {
        for (int row = 0; row < 2; row++) {
            for (int place = 31; place >= 0; place--) {
                WheelStand x = new WheelStand();
                x.wheel(32);
                x.read(row, (place + 1) % 32, 0);
                x.read(row, (place + 31) % 32, 0);
                x.read(row, place, 101);
                Sentence.due(x, 100 * row + place, "why");
                x.read(row, place, -101);
                Sentence.due(x, 100 * row + place, "why");
            }
        }
        // a place that is not read counts as it lies, and with what turns made
        WheelStand y = new WheelStand();
        y.read(0, 3, 100);
        y.limit(2, 1000);
        Sentence.fill(y, 0, 1);
        y.turn(4, 1);
        Sentence.due(y, 4, "why");
    }

    private static void whyNumbers() {
        for (int way = -1; way <= 1; way += 2) {
            WheelStand middle = new WheelStand();
            middle.limit(0, 1000);
            middle.read(0, 7, way * 101);
            Sentence.due(middle, 200, "why");
            WheelStand left = new WheelStand();
            left.tune(6, 500 + way * 101);
            Sentence.due(left, 300, "why");
            WheelStand right = new WheelStand();
            right.tune(7, 500 + way * 101);
            Sentence.due(right, 301, "why");
        }
    }

    private static void whyLoose() {
        WheelStand x = new WheelStand();
        x.wheel(32);
        x.limit(3, 1000000);
        for (int s = 31; s >= 0; s--) {
            x.tune(s, -1);
            Sentence.due(x, 400 + s, "why");
        }
        x.tune(0, 0);
        Sentence.due(x, 401, "why");
        x.snap(1);
        Sentence.due(x, 402, "why");
    }

    private static void whyNone() {
        Sentence.due(new WheelStand(), NONE, "why");
        WheelStand x = new WheelStand();
        for (int place = 0; place < 8; place++) {
            x.read(0, place, place % 2 == 0 ? 100 : -100);
            x.read(1, place, place % 2 == 0 ? 100 : -100);
        }
        for (int s = 0; s < 8; s++) {
            x.tune(s, s / 2 % 2 == 0 ? 0 : 100);
        }
        Sentence.due(x, NONE, "why");
        Sentence.keepsAll(1, "why");
    }
}
