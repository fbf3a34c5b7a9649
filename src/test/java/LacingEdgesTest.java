/** The sentences of promises 27 to 32 that name a boundary case. */
public final class LacingEdgesTest {
    private static final int BAD = Sentence.BAD;

    public static void main(String[] args) {
        Sentence.says("promise 27", "Radius, off, rim radius, crossings: 0.", LacingEdgesTest::lace);
        Sentence.says("promise 27", "BAD.", LacingEdgesTest::laceBad);
        Sentence.says("promise 28", "The LENGTH of a SPOKE, in tenths.", LacingEdgesTest::length);
        Sentence.says("promise 28", "BAD.", LacingEdgesTest::lengthBad);
        Sentence.says("promise 29", "Where the HUB HOLE of a SPOKE lies, in steps of 64 (0 .. 63).", LacingEdgesTest::hub);
        Sentence.says("promise 29", "BAD.", LacingEdgesTest::hubBad);
        Sentence.says("promise 30", "Whether two SPOKES CROSS: 1, 0 (0, if they do not LEAN alike, or LEAN 0).", LacingEdgesTest::crosses);
        Sentence.says("promise 30", "BAD: spokes, the same one.", LacingEdgesTest::crossesBad);
        Sentence.says("promise 31", "How many others a SPOKE CROSSES.", LacingEdgesTest::crossings);
        Sentence.says("promise 31", "BAD.", LacingEdgesTest::crossingsBad);
        Sentence.says("promise 32", "0 HOLES, 1 SPOKES that are not GONE", LacingEdgesTest::countSpokes);
        Sentence.says("promise 32", "2 turns in the LOG, 3 quarters in it (each by its size)", LacingEdgesTest::countTurns);
        Sentence.says("promise 32", "4 places of row 0 that are read, 5 of row 1", LacingEdgesTest::countRead);
        Sentence.says("promise 32", "BAD.", LacingEdgesTest::countBad);
        Sentence.end();
    }

    private static void lace() {
        WheelStand x = new WheelStand();
        x.kind(0, 5);
        // each of the four tells: 10 * (R - r) of a STRAIGHT one without off, and h
        Sentence.due(x, 0, "lace", 1, 0, 1000, 7);
        Sentence.due(x, 9990, "length", 0);
        Sentence.due(x, 56, "hub", 1);
        Sentence.due(x, 0, "lace", 200, 0, 1000, 0);
        Sentence.due(x, 8000, "length", 0);
        Sentence.due(x, 8, "hub", 1);
        Sentence.due(x, 0, "lace", 200, 200, 200, 1);
        Sentence.due(x, 2000, "length", 0);
        Sentence.due(x, 24, "hub", 1);
        Sentence.due(x, 0, "lace", 200, 0, 1, 7);
        Sentence.due(x, 1990, "length", 0);
    }

    private static void laceBad() {
        Sentence.takesOnly(0, 1, 200, "lace", 50, 60, 70, 4);
        Sentence.takesOnly(1, 0, 200, "lace", 50, 60, 70, 4);
        Sentence.takesOnly(2, 1, 1000, "lace", 50, 60, 70, 4);
        Sentence.takesOnly(3, 0, 7, "lace", 50, 60, 70, 4);
    }

    private static void length() {
        // r 25, o 35, R 310, c 2 of 8: half a round for all but the STRAIGHT one, 2; the one that is gone, too
        for (int spoke = 0; spoke < 8; spoke++) {
            Sentence.keepsAll(spoke == 2 ? 2871 : 3368, "length", spoke);
        }
    }

    private static void lengthBad() {
        Sentence.takesOnly(0, 0, 7, "length", 0);
        Sentence.takesHoles(0, "length", 0);
    }

    private static void hub() {
        int[] due = {32, 40, 16, 56, 0, 8, 16, 24};
        for (int spoke = 0; spoke < 8; spoke++) {
            Sentence.keepsAll(due[spoke], "hub", spoke);
        }
        // round past 63, and past 0 the other way
        for (int holes : new int[] {8, 16, 32}) {
            for (int c = 0; c < 8; c++) {
                WheelStand x = new WheelStand();
                x.wheel(holes);
                x.lace(20, 30, 300, c);
                for (int spoke = 0; spoke < holes; spoke++) {
                    // 2 * c rim holes on; as much behind is what whole rounds have left
                    int on = spoke / 2 % 2 == 0 ? 2 * c : 14 * holes - 2 * c;
                    Sentence.due(x, (spoke + on) * (64 / holes) % 64, "hub", spoke);
                }
            }
        }
    }

    private static void hubBad() {
        Sentence.takesOnly(0, 0, 7, "hub", 0);
        Sentence.takesHoles(0, "hub", 0);
    }

    private static void crosses() {
        // half a round of 8: 0 ahead to 32, 6 behind from 48 to 16; 2 is STRAIGHT, 4 leans 0, 7 is gone
        Sentence.keepsAll(1, "crosses", 0, 2);
        Sentence.keepsAll(1, "crosses", 2, 0);
        Sentence.keepsAll(1, "crosses", 0, 6);
        Sentence.keepsAll(0, "crosses", 0, 1);
        Sentence.keepsAll(0, "crosses", 0, 3);
        Sentence.keepsAll(0, "crosses", 0, 4);
        Sentence.keepsAll(0, "crosses", 4, 6);
        Sentence.keepsAll(0, "crosses", 5, 7);
        Sentence.keepsAll(0, "crosses", 7, 5);
        Sentence.keepsAll(1, "crosses", 1, 3);
        // two that lean 0
        WheelStand x = new WheelStand();
        x.kind(0, 0);
        x.kind(2, 0);
        Sentence.due(x, 0, "crosses", 0, 2);
        x.snap(0);
        Sentence.due(x, 0, "crosses", 0, 2);
        x.snap(2);
        Sentence.due(x, 0, "crosses", 0, 2);
    }

    private static void crossesBad() {
        Sentence.takesOnly(0, 0, 7, "crosses", 0, 1);
        Sentence.takesOnly(1, 0, 7, "crosses", 1, 0);
        for (int spoke = 0; spoke < 8; spoke++) {
            Sentence.keepsAll(BAD, "crosses", spoke, spoke);
        }
        Sentence.keepsAll(BAD, "crosses", 8, 8);
        Sentence.takesHoles(0, "crosses", 0, 1);
        Sentence.takesHoles(1, "crosses", 1, 0);
    }

    private static void crossings() {
        // a full wheel: as many as it is laced by, up to what is there
        for (int c = 0; c < 8; c++) {
            WheelStand x = new WheelStand();
            x.wheel(32);
            x.lace(20, 30, 300, c);
            for (int spoke : new int[] {0, 1, 2, 3, 28, 29, 30, 31}) {
                Sentence.due(x, c, "crossings", spoke);
            }
        }
        WheelStand y = new WheelStand();
        y.lace(20, 30, 300, 7);
        Sentence.due(y, 2, "crossings", 0);
        Sentence.due(y, 2, "crossings", 7);
        // one that is gone, or leans 0, crosses none, and none crosses it
        y.snap(2);
        Sentence.due(y, 0, "crossings", 2);
        Sentence.due(y, 1, "crossings", 0);
        y.kind(6, 0);
        Sentence.due(y, 0, "crossings", 6);
        Sentence.due(y, 0, "crossings", 0);
        // no others at all
        for (int spoke = 1; spoke < 8; spoke++) {
            y.snap(spoke);
        }
        Sentence.due(y, 0, "crossings", 0);
        Sentence.keepsAll(2, "crossings", 0);
    }

    private static void crossingsBad() {
        Sentence.takesOnly(0, 0, 7, "crossings", 0);
        Sentence.takesHoles(0, "crossings", 0);
    }

    private static void countSpokes() {
        for (int holes : new int[] {8, 16, 32}) {
            WheelStand x = new WheelStand();
            x.wheel(holes);
            for (int left = holes; left > 0; left--) {
                Sentence.due(x, left, "count", 1);
                x.snap(left - 1);
            }
            Sentence.due(x, 0, "count", 1);
            Sentence.due(x, holes, "count", 0);
            x.anew(holes - 1, 0, 0);
            Sentence.due(x, 1, "count", 1);
        }
    }

    private static void countTurns() {
        WheelStand x = new WheelStand();
        Sentence.due(x, 0, "count", 2);
        Sentence.due(x, 0, "count", 3);
        for (int i = 1; i <= 60; i++) {
            x.turn(i % 8, i % 2 == 0 ? -100 : 100);
            Sentence.due(x, i, "count", 2);
            Sentence.due(x, 100 * i, "count", 3);
        }
        x.turn(0, 100);
        Sentence.due(x, 60, "count", 2);
        Sentence.due(x, 6000, "count", 3);
        x.undo();
        Sentence.due(x, 5900, "count", 3);
        x.wheel(8);
        Sentence.due(x, 0, "count", 2);
        Sentence.due(x, 0, "count", 3);
    }

    private static void countRead() {
        for (int row = 0; row < 2; row++) {
            WheelStand x = new WheelStand();
            x.wheel(32);
            for (int place = 0; place < 32; place++) {
                x.read(row, place, place % 2 == 0 ? 0 : -9999);
                Sentence.due(x, place + 1, "count", 4 + row);
                Sentence.due(x, 0, "count", 5 - row);
            }
            // read again it is read once
            x.read(row, 0, 5);
            Sentence.due(x, 32, "count", 4 + row);
            x.read(row, 31, -10000);
            x.read(row, 31, -10000);
            Sentence.due(x, 31, "count", 4 + row);
        }
    }

    private static void countBad() {
        Sentence.takesOnly(0, 0, 5, "count", 0);
    }
}
