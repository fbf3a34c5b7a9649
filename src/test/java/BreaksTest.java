/** Promises 23 to 26. */
public final class BreaksTest {
    private static final int BAD = WheelStand.BAD, NO = WheelStand.NO;

    public static void main(String[] args) {
        snap();
        snapTooMuch();
        anew();
        loaded();
        worstAt();
        Check.end();
    }

    private static void snap() {
        WheelStand x = new WheelStand();
        Check.fill(x, 0, 5);
        Check.fill(x, 4, 1000, 301, -250);
        x.turn(2, 3);
        x.tune(2, 333);
        Check.due("23: had", x.snap(2), 333);
        int[] due = {416, 600, 0, 600, 416, 500, 500, 500};
        for (int j = 0; j < 8; j++) {
            Check.due("23: pull of " + j, x.about(j, 3), due[j]);
        }
        Check.due("23: gone", x.about(2, 0), 4);
        Check.due("23: what turns made stays", x.reading(0, 2), 15);
        Check.due("23: its turn stays in the log", x.count(2), 1);
        Check.due("23: again", x.snap(2), NO);
        x.tune(3, -333);
        Check.due("23: below 0", x.snap(3), -333);
        Check.due("23: towards below", x.about(4, 3), 416 - 101);
        Check.due("23: far", x.about(1, 3), 600 + 83);
        Check.due("23: gone gets none", x.about(2, 3), 0);
        Check.due("23: spoke", x.snap(8), BAD);
        Check.due("23: spoke", x.snap(-1), BAD);
        Check.due("23: others stand", x.count(1), 6);
    }

    private static void snapTooMuch() {
        for (int way = -1; way <= 1; way += 2) {
            WheelStand x = new WheelStand();
            raiseToTheMost(x, way);
            Check.due("23: just borne", x.about(1, 3), way * 100000000);
            x.tune(0, way);
            Check.due("23: too much", x.snap(0), NO);
            Check.due("23: it stands", x.about(0, 0), 1);
            Check.due("23: it pulls", x.about(0, 3), way);
            Check.due("23: the other stays", x.about(1, 3), way * 100000000);
            Check.due("23: nor can 0 bear all of 1", x.snap(1), NO);
            x.tune(0, -way);
            Check.due("23: less is borne", x.snap(0), -way);
            Check.due("23: less", x.about(1, 3), way * 99999999);
        }
    }

    /** Breaks 0, 1, 2 in turn, each giving all that it has to its neighbours, until 1 has 256 times 390625. */
    private static void raiseToTheMost(WheelStand x, int way) {
        Check.fill(x, 4, 0, 1000);
        for (int s = 0; s < 8; s++) {
            x.tune(s, 0);
        }
        x.snap(3);
        x.snap(7);
        for (int v : new int[] {100000, 100000, 100000, 90625}) {
            x.tune(0, way * v);
            Check.due("23: had", x.snap(0), way * v);
            x.anew(0, 1, 0);
        }
        for (int i = 0; i < 8; i++) {
            int has = x.about(1, 3);
            x.snap(1);
            x.anew(1, 2, 0);
            Check.due("23: 0 has it", x.snap(0), has);
            Check.due("23: 2 has it", x.snap(2), has);
            x.anew(0, 1, 0);
            x.anew(2, 1, 0);
        }
    }

    private static void anew() {
        WheelStand x = new WheelStand();
        x.snap(1);
        for (int kind : new int[] {4, -1, 6}) {
            Check.due("24: kind", x.anew(1, kind, 5), BAD);
        }
        Check.due("24: pull", x.anew(1, 0, -1), BAD);
        Check.due("24: pull", x.anew(1, 0, 100001), BAD);
        Check.due("24: spoke", x.anew(8, 0, 0), BAD);
        Check.due("24: spoke", x.anew(-1, 0, 0), BAD);
        Check.due("24: gone still", x.about(1, 0), 4);
        for (int kind : new int[] {0, 1, 2, 3, 5}) {
            Check.due("24: anew", x.anew(1, kind, 100000), 0);
            Check.due("24: kind", x.about(1, 0), kind);
            Check.due("24: pull", x.about(1, 3), 100000);
            Check.due("24: it stands", x.anew(1, kind, 1), NO);
            Check.due("24: bad before standing", x.anew(1, 4, 1), BAD);
            x.snap(1);
        }
        Check.due("24: none", x.anew(1, 1, 0), 0);
        Check.due("24: pull 0", x.about(1, 3), 0);
        Check.due("24: others stay", x.about(2, 3), 500);
    }

    private static void loaded() {
        WheelStand x = new WheelStand();
        Check.due("25: no table", x.loaded(100000, 0, 0), 500);
        Check.fill(x, 5, 900, 401, -333);
        Check.due("25: at it", x.loaded(1001, 7, 7), 500 - 900);
        Check.due("25: next to it", x.loaded(1001, 7, 0), 500 - 401);
        Check.due("25: towards below", x.loaded(1001, 7, 1), 500 + 334);
        Check.due("25: most", x.loaded(100000, 2, 2), 500 - 90000);
        Check.due("25: none", x.loaded(0, 2, 2), 500);
        Check.due("25: far", x.loaded(100000, 2, 6), 500);
        Check.due("25: nothing changed", x.about(2, 3), 500);
        x.snap(2);
        Check.due("25: gone", x.loaded(100000, 2, 2), 0);
        Check.due("25: w", x.loaded(-1, 0, 0), BAD);
        Check.due("25: w", x.loaded(100001, 0, 0), BAD);
        Check.due("25: place", x.loaded(0, 8, 0), BAD);
        Check.due("25: place", x.loaded(0, -1, 0), BAD);
        Check.due("25: spoke", x.loaded(0, 0, 8), BAD);
        Check.due("25: spoke", x.loaded(0, 0, -1), BAD);
    }

    private static void worstAt() {
        WheelStand x = new WheelStand();
        Check.due("26: none anywhere", x.worstAt(100000), 0);
        Check.fill(x, 5, 1000, 100);
        Check.due("26: at 500 none", x.worstAt(500), 0);
        x.tune(5, 499);
        Check.due("26: the one below", x.worstAt(500), 5);
        x.tune(5, 49);
        Check.due("26: next to it, the least", x.worstAt(500), 4);
        Check.due("26: two", x.worstAt(501), 4);
        x.tune(2, 49);
        x.tune(0, 49);
        Check.due("26: both sides of 1", x.worstAt(501), 1);
        x.snap(0);
        Check.due("26: gone counts not", x.worstAt(501), 1);
        x.snap(2);
        Check.due("26: both gone", x.worstAt(501), 4);
        Check.due("26: no load", x.worstAt(0), 0);
        x.tune(7, -5);
        Check.due("26: loose already, everywhere alike", x.worstAt(0), 0);
        Check.due("26: w", x.worstAt(-1), BAD);
        Check.due("26: w", x.worstAt(100001), BAD);
        Check.due("26: nothing changed", x.about(5, 3), 49);
    }
}
