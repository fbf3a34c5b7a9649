import java.util.ArrayList;
import java.util.List;

/**
 * The document's words once more, as plainly as they go and with no thought of speed: every trial is a copy of
 * the whole wheel that is really turned. The random runs hold WheelStand against it.
 */
final class Model {
    static final int BAD = -1000000001, NO = -1000000002, FULL = -1000000003, NOTHING = -1000000011, INDEX = -1000000013, NONE = -1000000005;
    static final int[] SIN = {0, 100, 200, 297, 392, 483, 569, 650, 724, 792, 851, 903, 946, 980, 1004, 1019, 1024};

    int n = 8;
    int[] kinds;
    long[] pulls;
    Integer[][] readings;
    long[][] made;
    int[][] tables = new int[6][];
    int[] limits = {100, 100, 100, 100, 1000};
    List<int[]> log = new ArrayList<>();
    int r = 20, o = 30, rim = 300, c = 3;

    Model() {
        wheel(8);
    }

    Model(Model m) {
        n = m.n;
        kinds = m.kinds.clone();
        pulls = m.pulls.clone();
        readings = m.readings;
        made = new long[][] {m.made[0].clone(), m.made[1].clone()};
        tables = m.tables;
        limits = m.limits;
    }

    boolean hole(int s) { return 0 <= s && s < n; }

    static boolean in(int v, int a, int b) { return a <= v && v <= b; }

    static boolean puttable(int kind) { return in(kind, 0, 3) || kind == 5; }

    boolean gone(int s) { return kinds[s] == 4; }

    int lean(int s) {
        return kinds[s] == 1 || kinds[s] == 5 ? 1 : kinds[s] == 2 || kinds[s] == 3 ? -1 : 0;
    }

    int force(int s) { return kinds[s] == 3 ? 2 : gone(s) ? 0 : 1; }

    int d(int i, int j) {
        int ahead = 0;
        while ((i + ahead) % n != j) ahead++;
        return Math.min(ahead, n - ahead);
    }

    long tab(int t, int d) { return tables[t] == null || d >= tables[t].length ? 0 : tables[t][d]; }

    void doTurn(int s, int q) {
        for (int p = 0; p < n; p++) {
            made[0][p] += (long) q * force(s) * lean(s) * tab(0, d(s, p));
            made[1][p] += (long) q * force(s) * tab(1, d(s, p));
            if (!gone(p)) pulls[p] += q * force(s) * tab(lean(s) == lean(p) ? 2 : 3, d(s, p));
        }
    }

    /** The wheel with that turn done; null, if it is refused. */
    Model turned(int s, int q) {
        if (gone(s)) return null;
        Model m = new Model(this);
        m.doTurn(s, q);
        for (int j = 0; j < n; j++) if (m.pulls[j] > limits[4]) return null;
        return m;
    }

    long straight(int row, int p) {
        if (readings[row][p] != null) return readings[row][p];
        for (int i = 1; i <= n; i++) {
            Integer a = readings[row][(p - i + n) % n];
            if (a == null) continue;
            for (int k = 1; k <= n; k++) {
                Integer b = readings[row][(p + k) % n];
                if (b != null) return Math.floorDiv((long) a * k + (long) b * i, (long) i + k);
            }
        }
        return 0;
    }

    long bent(int row, int p) { return straight(row, p) + made[row][p]; }

    long middle() {
        long sum = 0;
        for (int p = 0; p < n; p++) sum += bent(0, p);
        return Math.floorDiv(sum, (long) n);
    }

    long spread(int lean) {
        List<Long> all = new ArrayList<>();
        for (int j = 0; j < n; j++) if (lean(j) == lean) all.add(pulls[j]);
        all.sort(null);
        return all.isEmpty() ? 0 : all.get(all.size() - 1) - all.get(0);
    }

    long worst() {
        long w = 0;
        for (int row = 0; row < 2; row++)
            for (int p = 0; p < n; p++) w = Math.max(w, 1000 * Math.abs(bent(row, p)) / limits[row]);
        w = Math.max(w, 1000 * Math.abs(middle()) / limits[2]);
        w = Math.max(w, 1000 * spread(1) / limits[3]);
        w = Math.max(w, 1000 * spread(-1) / limits[3]);
        return Math.min(w, 1000000000L);
    }

    int loose() {
        int many = 0;
        for (int j = 0; j < n; j++) if (!gone(j) && pulls[j] < 0) many++;
        return many;
    }

    int wheel(int holes) {
        if (holes != 8 && holes != 16 && holes != 32) return BAD;
        n = holes;
        kinds = new int[n];
        pulls = new long[n];
        readings = new Integer[2][n];
        made = new long[2][n];
        log.clear();
        for (int i = 0; i < n; i++) {
            kinds[i] = 1 + i % 2;
            pulls[i] = 500;
        }
        return n;
    }

    int kind(int s, int kind) {
        if (!hole(s) || !puttable(kind)) return BAD;
        if (gone(s)) return NO;
        int was = kinds[s];
        kinds[s] = kind;
        return was;
    }

    int table(int t, int places) {
        if (!in(t, 0, 5) || !in(places, -1, 17)) return BAD;
        tables[t] = places == -1 ? null : new int[places];
        return places == -1 ? 0 : places;
    }

    int enter(int t, int place, int v) {
        if (!in(t, 0, 5) || !in(v, -1000, 1000)) return BAD;
        if (tables[t] == null) return NOTHING;
        if (!in(place, 0, tables[t].length - 1)) return INDEX;
        int was = tables[t][place];
        tables[t][place] = v;
        return was;
    }

    int copy(int from, int to, int many) {
        if (!in(from, 0, 5) || !in(to, 0, 5)) return BAD;
        if (tables[from] == null || tables[to] == null) return NOTHING;
        if (many < 0 || many > tables[from].length || many > tables[to].length) return INDEX;
        System.arraycopy(tables[from], 0, tables[to], 0, many);
        return many;
    }

    int read(int row, int place, int v) {
        if (!in(row, 0, 1) || !hole(place) || !in(v, -10000, 9999)) return BAD;
        Integer was = readings[row][place];
        readings[row][place] = v == -10000 ? null : v;
        return was == null ? -10000 : was;
    }

    int limit(int which, int v) {
        if (!in(which, 0, 4) || !in(v, 1, 1000000)) return BAD;
        int was = limits[which];
        limits[which] = v;
        return was;
    }

    int tune(int s, int v) {
        if (!hole(s) || !in(v, -100000, 100000)) return BAD;
        if (gone(s)) return NO;
        int was = (int) pulls[s];
        pulls[s] = v;
        return was;
    }

    int about(int s, int what) {
        if (!hole(s) || !in(what, 0, 3)) return BAD;
        return what == 0 ? kinds[s] : what == 1 ? lean(s) : what == 2 ? force(s) : (int) pulls[s];
    }

    int isOf(int s, int kind) {
        if (!hole(s) || !in(kind, 0, 5)) return BAD;
        int k = kinds[s];
        return kind == 0 || kind == k || k == 3 && kind == 2 || k == 5 && kind == 1 ? 1 : 0;
    }

    int tells(int t, int steps) { return !in(t, 0, 5) || !in(steps, 0, 16) ? BAD : (int) tab(t, steps); }

    int unbent(int row, int p) { return !in(row, 0, 1) || !hole(p) ? BAD : (int) straight(row, p); }

    int reading(int row, int p) { return !in(row, 0, 1) || !hole(p) ? BAD : (int) bent(row, p); }

    int state(int what) {
        if (!in(what, 0, 5)) return BAD;
        long[] all = {middle(), spread(1), spread(-1), worst(), loose(), why() == NONE ? 1 : 0};
        return (int) all[what];
    }

    int why() {
        for (int row = 0; row < 2; row++)
            for (int p = 0; p < n; p++) if (Math.abs(bent(row, p)) > limits[row]) return 100 * row + p;
        if (Math.abs(middle()) > limits[2]) return 200;
        if (spread(1) > limits[3]) return 300;
        if (spread(-1) > limits[3]) return 301;
        for (int j = 0; j < n; j++) if (!gone(j) && pulls[j] < 0) return 400 + j;
        return NONE;
    }

    int turn(int s, int q) {
        if (!hole(s) || !in(q, -100, 100) || q == 0) return BAD;
        if (turned(s, q) == null) return NO;
        if (log.size() >= 60) return FULL;
        doTurn(s, q);
        log.add(new int[] {s, q});
        return (int) pulls[s];
    }

    int next() {
        long least = worst();
        int best = NONE;
        for (int s = 0; s < n; s++) {
            for (int q = 1; q >= -1; q -= 2) {
                Model m = turned(s, q);
                if (m != null && m.worst() < least) {
                    least = m.worst();
                    best = 2 * s + (q == -1 ? 1 : 0);
                }
            }
        }
        return best;
    }

    int plan(int many) {
        if (!in(many, 1, 60)) return BAD;
        int done = 0;
        while (done < many && log.size() < 60) {
            int best = next();
            if (best == NONE) break;
            turn(best / 2, best % 2 == 0 ? 1 : -1);
            done++;
        }
        return done;
    }

    int[] found() {
        int[] order = {1, -1, 2, -2, 3, -3, 4, -4};
        if (why() == NONE) return new int[] {0};
        for (int s = 0; s < n; s++) {
            for (int q : order) {
                Model m = turned(s, q);
                if (m != null && m.why() == NONE) return new int[] {1, s, q};
            }
        }
        for (int s = 0; s < n; s++) {
            for (int q : order) {
                Model m = turned(s, q);
                for (int t = s + 1; t < n && m != null; t++) {
                    for (int u : order) {
                        Model both = m.turned(t, u);
                        if (both != null && both.why() == NONE) return new int[] {2, s, q, t, u};
                    }
                }
            }
        }
        return new int[0];
    }

    int fewest(int what) {
        if (!in(what, 0, 4)) return BAD;
        int[] found = found();
        return what < found.length ? found[what] : NONE;
    }

    int log(int i, int what) {
        if (i < 0 || !in(what, 0, 1)) return BAD;
        return i < log.size() ? log.get(i)[what] : NONE;
    }

    int undo() {
        if (log.isEmpty()) return NO;
        int[] last = log.remove(log.size() - 1);
        if (!gone(last[0])) doTurn(last[0], -last[1]);
        return log.size();
    }

    int snap(int s) {
        if (!hole(s)) return BAD;
        if (gone(s)) return NO;
        long[] then = pulls.clone();
        for (int j = 0; j < n; j++) {
            if (j != s && !gone(j)) then[j] += Math.floorDiv(pulls[s] * tab(4, d(s, j)), 1000L);
        }
        int had = (int) pulls[s];
        then[s] = 0;
        for (long v : then) if (Math.abs(v) > 100000000L) return NO;
        pulls = then;
        kinds[s] = 4;
        return had;
    }

    int anew(int s, int kind, int pull) {
        if (!hole(s) || !puttable(kind) || !in(pull, 0, 100000)) return BAD;
        if (!gone(s)) return NO;
        kinds[s] = kind;
        pulls[s] = pull;
        return 0;
    }

    int loaded(int w, int p, int s) {
        if (!in(w, 0, 100000) || !hole(p) || !hole(s)) return BAD;
        return gone(s) ? 0 : (int) (pulls[s] - Math.floorDiv(w * tab(5, d(p, s)), 1000L));
    }

    int worstAt(int w) {
        if (!in(w, 0, 100000)) return BAD;
        int best = -1, most = -1;
        for (int p = 0; p < n; p++) {
            int many = 0;
            for (int s = 0; s < n; s++) if (!gone(s) && loaded(w, p, s) < 0) many++;
            if (many > most) {
                most = many;
                best = p;
            }
        }
        return best;
    }

    int lace(int r, int o, int rim, int c) {
        if (!in(r, 1, 200) || !in(o, 0, 200) || !in(rim, 1, 1000) || !in(c, 0, 7)) return BAD;
        this.r = r;
        this.o = o;
        this.rim = rim;
        this.c = c;
        return 0;
    }

    int h(int s) {
        int h = kinds[s] == 5 ? 0 : 2 * c * 64 / n;
        return s / 2 % 2 == 0 ? h : -h;
    }

    static long sin(int k) {
        if (k < 0) return -sin(-k);
        if (k >= 64) return sin(k - 64);
        if (k > 32) return sin(k - 64);
        return k <= 16 ? SIN[k] : SIN[32 - k];
    }

    int length(int s) {
        if (!hole(s)) return BAD;
        long v = 100L * (rim * rim + r * r + o * o) - Math.floorDiv(200L * rim * r * sin(16 + h(s)), 1024L);
        int root = 0;
        while ((root + 1L) * (root + 1L) <= v) root++;
        return root;
    }

    int hub(int s) { return !hole(s) ? BAD : (s * 64 / n + h(s) + 640) % 64; }

    int crosses(int s, int t) {
        if (!hole(s) || !hole(t) || s == t) return BAD;
        if (lean(s) == 0 || lean(s) != lean(t)) return 0;
        int w = (t * 64 / n - s * 64 / n + 64) % 64;
        int e = w + h(t) - h(s);
        return e < 0 || e > 64 ? 1 : 0;
    }

    int crossings(int s) {
        if (!hole(s)) return BAD;
        int many = 0;
        for (int t = 0; t < n; t++) if (t != s) many += crosses(s, t);
        return many;
    }

    int count(int what) {
        if (!in(what, 0, 5)) return BAD;
        int[] all = {n, 0, log.size(), 0, 0, 0};
        for (int s = 0; s < n; s++) {
            if (!gone(s)) all[1]++;
            if (readings[0][s] != null) all[4]++;
            if (readings[1][s] != null) all[5]++;
        }
        for (int[] turn : log) all[3] += Math.abs(turn[1]);
        return all[what];
    }
}
