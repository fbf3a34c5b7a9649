import java.util.Random;

/** Wheels that one turn or two have put out of true, or nearly: the fewest, the next quarter and plans, against the Model. */
public final class RandomTruingTest {
    private static final int[] fewestWas = new int[4];
    private static int plans = 0;

    private final Random random;
    private final WheelStand x = new WheelStand();
    private final Model m = new Model();
    private final String where;

    private RandomTruingTest(int seed) {
        random = new Random(seed);
        where = "seed " + seed;
    }

    public static void main(String[] args) {
        for (int seed = 0; seed < 600; seed++) {
            new RandomTruingTest(seed).run(seed % 100 == 0 ? 32 : seed % 5 == 0 ? 16 : 8);
        }
        for (int i = 0; i < 4; i++) {
            Check.holds("the fewest were " + (i == 3 ? "NONE" : "" + i) + " often", fewestWas[i] > 40);
        }
        Check.holds("plans did something", plans > 200);
        Check.end();
    }

    private int up(int least, int most) {
        return least + random.nextInt(most - least + 1);
    }

    private boolean both(String name, int... a) {
        return Calls.agree(where, x, m, name, a);
    }

    private void run(int holes) {
        both("wheel", holes);
        for (int table = 0; table < 4; table++) {
            fill(table);
        }
        for (int i = up(0, 4); i > 0; i--) {
            both("kind", up(0, holes - 1), new int[] {0, 1, 2, 3, 5}[up(0, 4)]);
        }
        if (up(0, 3) == 0) {
            both("snap", up(0, holes - 1));
        }
        for (int which = 0; which < 4; which++) {
            both("limit", which, up(3, 40));
        }
        both("limit", 4, up(0, 3) == 0 ? up(495, 560) : 1000);
        spoil(holes);
        ask();
        both("tune", up(0, holes - 1), up(480, 520));
        ask();
        for (int i = 0; i < 6; i++) {
            both("undo");
        }
        both("tune", up(0, holes - 1), up(-5, 5));
        both("limit", 3, 1000);
        ask();
    }

    private void fill(int table) {
        int places = up(1, 4);
        both("table", table, places);
        for (int i = 0; i < places; i++) {
            both("enter", table, i, i == 0 ? up(-40, 40) : up(-12, 12));
        }
    }

    /** Reads the rim as bent by turns the other way, done on a wheel of their own. */
    private void spoil(int holes) {
        Model other = new Model(m);
        for (int i = up(0, 3); i > 0; i--) {
            other.doTurn(up(0, holes - 1), up(1, 4) * (up(0, 1) * 2 - 1));
        }
        for (int place = 0; place < holes; place++) {
            both("read", 0, place, (int) -other.made[0][place]);
            both("read", 1, place, (int) -other.made[1][place]);
            if (!m.gone(place)) {
                both("tune", place, (int) (1000 - other.pulls[place]));
            }
        }
        both("read", up(0, 1), up(0, holes - 1), -10000);
    }

    private void ask() {
        int[] found = m.found();
        fewestWas[found.length == 0 ? 3 : found[0]]++;
        for (int what = 0; what < 5; what++) {
            Check.due(where + ": fewest(" + what + ")", x.fewest(what), what < found.length ? found[what] : Model.NONE);
        }
        both("state", 3);
        both("next");
        both("plan", up(1, 6));
        plans += m.count(2) > 0 ? 1 : 0;
        both("why");
        both("state", 5);
        for (int i = 0; i < m.n; i++) {
            both("about", i, 3);
            both("reading", 0, i);
            both("reading", 1, i);
        }
    }
}
