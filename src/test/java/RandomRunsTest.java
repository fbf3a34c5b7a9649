import java.util.Arrays;
import java.util.Random;

/** Long runs of calls drawn from fixed seeds: WheelStand must answer each as the Model does. */
public final class RandomRunsTest {
    private static final String[] NAMES = {"wheel", "kind", "table", "enter", "copy", "read", "limit", "tune", "about", "isOf", "tells",
        "unbent", "reading", "state", "why", "turn", "next", "plan", "fewest", "log", "undo", "snap", "anew", "loaded", "worstAt",
        "lace", "length", "hub", "crosses", "crossings", "count"};
    // how often each is called, out of all of them together
    private static final int[] WEIGHTS = {1, 10, 6, 24, 4, 30, 8, 14, 12, 6, 6,
        8, 14, 16, 10, 30, 8, 3, 5, 8, 14, 5, 8, 8, 5,
        6, 6, 5, 8, 5, 8};
    private static final int WHEEL = 0, FEWEST = 18;
    private static final int[] ODD = {-1, Integer.MIN_VALUE, Integer.MAX_VALUE, 33, -10001, 10000, 1001, -1001, 100001, -100001, 1000001, 101, 61, 201};

    private static final int[] answered = new int[NAMES.length];
    private static final int[] refused = new int[NAMES.length];

    private final Random random;
    private final int big;

    private RandomRunsTest(int seed) {
        random = new Random(seed);
        // runs with small entries come near to WITHIN, those with great ones to the edges
        big = new int[] {10, 60, 1000}[seed % 3];
    }

    public static void main(String[] args) {
        for (int seed = 0; seed < 400; seed++) {
            new RandomRunsTest(seed).run(seed);
        }
        for (int i = 0; i < NAMES.length; i++) {
            Check.holds(NAMES[i] + " was answered often", answered[i] > 100);
            boolean never = NAMES[i].equals("why") || NAMES[i].equals("next");
            Check.holds(NAMES[i] + " was refused, if it can be", never || refused[i] > 20);
        }
        Check.end();
    }

    private void run(int seed) {
        WheelStand x = new WheelStand();
        Model m = new Model();
        int holes = new int[] {8, 8, 16, 32}[random.nextInt(4)];
        x.wheel(holes);
        m.wheel(holes);
        for (int i = 0; i < 500; i++) {
            int call = draw();
            if (call == FEWEST && (m.n == 32 && random.nextInt(8) != 0 || m.n == 16 && random.nextInt(3) != 0)) {
                continue;
            }
            int[] a = arguments(call, m.n);
            int want = Calls.ask(m, NAMES[call], a);
            int got = Calls.ask(x, NAMES[call], a);
            note(call, want);
            Check.due("seed " + seed + ", call " + i + ", " + NAMES[call] + Arrays.toString(a), got, want);
            if (got != want) {
                return;
            }
        }
        compare(seed, x, m);
    }

    /** What calls that were drawn might not have looked at. */
    private static void compare(int seed, WheelStand x, Model m) {
        for (int i = 0; i < m.n; i++) {
            Check.due("seed " + seed + ", kind of " + i, x.about(i, 0), m.about(i, 0));
            Check.due("seed " + seed + ", pull of " + i, x.about(i, 3), m.about(i, 3));
            Check.due("seed " + seed + ", side at " + i, x.reading(0, i), m.reading(0, i));
            Check.due("seed " + seed + ", up at " + i, x.reading(1, i), m.reading(1, i));
        }
        Check.due("seed " + seed + ", log", x.count(2), m.count(2));
    }

    private static void note(int call, int answer) {
        boolean no = answer <= -1000000001 && answer != Model.NONE;
        (no ? refused : answered)[call]++;
    }

    private int draw() {
        int all = 0;
        for (int w : WEIGHTS) all += w;
        int k = random.nextInt(all);
        for (int i = 0; i < WEIGHTS.length; i++) {
            k -= WEIGHTS[i];
            if (k < 0) {
                return i == WHEEL && random.nextInt(3) != 0 ? FEWEST : i;
            }
        }
        return 0;
    }

    private int up(int least, int most) {
        return least + random.nextInt(most - least + 1);
    }

    private int about0(int size) {
        return random.nextInt(10) == 0 ? up(-size, size) : up(-size / 8 - 1, size / 8 + 1);
    }

    private int[] arguments(int call, int n) {
        int[] a = usual(call, n);
        if (a.length > 0 && random.nextInt(14) == 0) {
            int i = random.nextInt(a.length);
            a[i] = random.nextInt(3) == 0 ? n : ODD[random.nextInt(ODD.length)];
        }
        return a;
    }

    private int[] usual(int call, int n) {
        int s = random.nextInt(n), t = random.nextInt(n);
        switch (NAMES[call]) {
            case "wheel": return new int[] {new int[] {8, 16, 32, 12}[up(0, 3)]};
            case "kind": return new int[] {s, up(0, 5)};
            case "table": return new int[] {up(0, 5), up(0, 9) == 0 ? -1 : up(0, 17)};
            case "enter": return new int[] {up(0, 5), up(0, 2) == 0 ? up(0, 16) : up(0, 2), up(-big, big)};
            case "copy": return new int[] {up(0, 5), up(0, 5), up(-1, 8)};
            case "read": return new int[] {up(0, 1), s, up(0, 3) == 0 ? -10000 : up(0, 15) == 0 ? up(-9999, 9999) : up(-130, 130)};
            case "limit": return new int[] {up(0, 4), up(0, 3) == 0 ? up(1, 1000000) : up(60, 1200)};
            case "tune": return new int[] {s, up(0, 9) == 0 ? up(-100000, 100000) : up(-20, 560)};
            case "about": return new int[] {s, up(0, 3)};
            case "isOf": return new int[] {s, up(0, 5)};
            case "tells": return new int[] {up(0, 5), up(0, 16)};
            case "unbent": case "reading": return new int[] {up(0, 1), s};
            case "state": return new int[] {up(0, 5)};
            case "turn": return new int[] {s, about0(100)};
            case "plan": return new int[] {up(1, 4) == 1 ? up(1, 60) : up(1, 4)};
            case "fewest": return new int[] {up(0, 4)};
            case "log": return new int[] {up(0, 12), up(0, 1)};
            case "snap": return new int[] {s};
            case "anew": return new int[] {s, up(0, 5), up(0, 700)};
            case "loaded": return new int[] {up(0, 3000), t, s};
            case "worstAt": return new int[] {up(0, 100000)};
            case "lace": return new int[] {up(1, 200), up(0, 200), up(1, 1000), up(0, 7)};
            case "length": case "hub": case "crossings": return new int[] {s};
            case "crosses": return new int[] {s, t};
            case "count": return new int[] {up(0, 5)};
            default: return new int[0];
        }
    }
}
