/** A stand for truing wheels; the promises it keeps are those of the project's document. */
public final class WheelStand {
    public static final int BAD = -1000000001, NO = -1000000002, FULL = -1000000003, NOTHING = -1000000011, INDEX = -1000000013, NONE = -1000000005;

    private static final int MOST_HOLES = 32, FIRST_HOLES = 8, FIRST_PULL = 500;
    private static final int SPOKE = 0, LEFT = 1, RIGHT = 2, GONE = 4, STRAIGHT = 5;
    private static final int SIDE = 0, UP = 1, PULL = 2, OTHER = 3, BREAK = 4, LOAD = 5;
    private static final int TABLES = 6, MOST_PLACES = 17, MISSING = -1, MOST_ENTRY = 1000;
    private static final int ROWS = 2, NOT_READ = -10000, MOST_READING = 9999;
    private static final int OF_MIDDLE = 2, OF_SPREAD = 3, OF_PULL = 4, MOST_LIMIT = 1000000;
    private static final int MOST_PULL = 100000, MOST_LOAD = 100000, MOST_QUARTERS = 100, LOG_ROOM = 60;
    private static final long WORST_OF_ALL = 1000000000L, UNBEARABLE = 100000000L;
    private static final int ROUND = 64;

    // by KIND: how it leans, its force, and the kind that it is besides itself
    private static final int[] LEANS = {0, 1, -1, -1, 0, 1};
    private static final int[] FORCES = {1, 1, 1, 2, 0, 1};
    private static final int[] ALSO = {SPOKE, SPOKE, SPOKE, RIGHT, SPOKE, LEFT};

    private static final int[] SINES = {0, 100, 200, 297, 392, 483, 569, 650, 724, 792, 851, 903, 946, 980, 1004, 1019, 1024};

    private final Tables tables = new Tables();
    private final Wheel rig = new Wheel();
    private final int[] limits = {100, 100, 100, 100, 1000};
    private final Gauge gauge = new Gauge(rig, tables, limits);
    private final Search search = new Search(rig, gauge);
    private final TurnLog turns = new TurnLog();
    private final Lacing lacing = new Lacing();

    public WheelStand() {
        rig.begin(FIRST_HOLES);
    }

    // ---- building

    public int wheel(int holes) {
        if (holes != 8 && holes != 16 && holes != MOST_HOLES) {
            return BAD;
        }
        rig.begin(holes);
        turns.many = 0;
        return holes;
    }

    public int kind(int spoke, int kind) {
        if (!rig.hasHole(spoke) || !canBePut(kind)) {
            return BAD;
        }
        if (rig.isGone(spoke)) {
            return NO;
        }
        int was = rig.kinds[spoke];
        rig.kinds[spoke] = kind;
        return was;
    }

    public int table(int table, int n) {
        if (!isTable(table) || !lies(n, MISSING, MOST_PLACES)) {
            return BAD;
        }
        tables.begin(table, n);
        return Math.max(n, 0);
    }

    public int enter(int table, int place, int v) {
        if (!isTable(table) || !lies(v, -MOST_ENTRY, MOST_ENTRY)) {
            return BAD;
        }
        if (tables.isMissing(table)) {
            return NOTHING;
        }
        if (!lies(place, 0, tables.sizes[table] - 1)) {
            return INDEX;
        }
        int was = tables.rows[table][place];
        tables.rows[table][place] = v;
        return was;
    }

    public int copy(int from, int to, int many) {
        if (!isTable(from) || !isTable(to)) {
            return BAD;
        }
        if (tables.isMissing(from) || tables.isMissing(to)) {
            return NOTHING;
        }
        if (!lies(many, 0, Math.min(tables.sizes[from], tables.sizes[to]))) {
            return INDEX;
        }
        for (int i = 0; i < many; i++) {
            tables.rows[to][i] = tables.rows[from][i];
        }
        return many;
    }

    public int read(int row, int place, int v) {
        if (!isRow(row) || !rig.hasHole(place) || !lies(v, NOT_READ, MOST_READING)) {
            return BAD;
        }
        int was = rig.readings[row][place];
        rig.readings[row][place] = v;
        rig.layStraight(row);
        return was;
    }

    public int limit(int which, int v) {
        if (!lies(which, 0, OF_PULL) || !lies(v, 1, MOST_LIMIT)) {
            return BAD;
        }
        int was = limits[which];
        limits[which] = v;
        return was;
    }

    public int tune(int spoke, int v) {
        if (!rig.hasHole(spoke) || !lies(v, -MOST_PULL, MOST_PULL)) {
            return BAD;
        }
        if (rig.isGone(spoke)) {
            return NO;
        }
        int was = rig.pulls[spoke];
        rig.pulls[spoke] = v;
        return was;
    }

    public int about(int spoke, int what) {
        if (!rig.hasHole(spoke)) {
            return BAD;
        }
        switch (what) {
            case 0: return rig.kinds[spoke];
            case 1: return rig.leanOf(spoke);
            case 2: return rig.forceOf(spoke);
            case 3: return rig.pulls[spoke];
            default: return BAD;
        }
    }

    public int isOf(int spoke, int kind) {
        if (!rig.hasHole(spoke) || !lies(kind, SPOKE, STRAIGHT)) {
            return BAD;
        }
        int own = rig.kinds[spoke];
        return asNumber(kind == SPOKE || kind == own || kind == ALSO[own]);
    }

    public int tells(int table, int steps) {
        if (!isTable(table) || !lies(steps, 0, MOST_PLACES - 1)) {
            return BAD;
        }
        return tables.rows[table][steps];
    }

    // ---- readings

    public int unbent(int row, int place) {
        if (!isRow(row) || !rig.hasHole(place)) {
            return BAD;
        }
        return rig.straight[row][place];
    }

    public int reading(int row, int place) {
        if (!isRow(row) || !rig.hasHole(place)) {
            return BAD;
        }
        return rig.bentAt(row, place);
    }

    public int state(int what) {
        gauge.rest();
        switch (what) {
            case 0: return gauge.middle();
            case 1: return gauge.spreadOf(1);
            case 2: return gauge.spreadOf(-1);
            case 3: return gauge.worst();
            case 4: return gauge.howManyLoose();
            case 5: return asNumber(gauge.firstFault() == NONE);
            default: return BAD;
        }
    }

    public int why() {
        gauge.rest();
        return gauge.firstFault();
    }

    // ---- turns

    public int turn(int spoke, int n) {
        if (!rig.hasHole(spoke) || !lies(n, -MOST_QUARTERS, MOST_QUARTERS) || n == 0) {
            return BAD;
        }
        gauge.suppose(spoke, n);
        if (gauge.isRefused()) {
            return NO;
        }
        if (turns.isFull()) {
            return FULL;
        }
        gauge.keep();
        turns.add(spoke, n);
        return rig.pulls[spoke];
    }

    public int next() {
        return search.bestQuarter();
    }

    public int plan(int n) {
        if (!lies(n, 1, LOG_ROOM)) {
            return BAD;
        }
        for (int done = 0; done < n; done++) {
            int best = turns.isFull() ? NONE : search.bestQuarter();
            if (best == NONE) {
                return done;
            }
            int spoke = best >> 1;
            int way = (best & 1) == 0 ? 1 : -1;
            gauge.suppose(spoke, way);
            gauge.keep();
            turns.add(spoke, way);
        }
        return n;
    }

    public int fewest(int what) {
        if (!lies(what, 0, 4)) {
            return BAD;
        }
        int many = search.fewestSpokes();
        if (many == NONE || what > 2 * many) {
            return NONE;
        }
        return what == 0 ? many : search.found[what];
    }

    public int log(int i, int what) {
        if (i < 0 || !lies(what, 0, 1)) {
            return BAD;
        }
        if (i >= turns.many) {
            return NONE;
        }
        return what == 0 ? turns.spokes[i] : turns.quarters[i];
    }

    public int undo() {
        if (turns.many == 0) {
            return NO;
        }
        int latest = turns.many - 1;
        // of one that is GONE the force is 0, so that nothing is made of it
        gauge.suppose(turns.spokes[latest], -turns.quarters[latest]);
        gauge.keep();
        turns.many = latest;
        return latest;
    }

    // ---- breaks, loads

    public int snap(int spoke) {
        if (!rig.hasHole(spoke)) {
            return BAD;
        }
        if (rig.isGone(spoke) || breaksTooMuch(spoke)) {
            return NO;
        }
        int had = rig.pulls[spoke];
        for (int j = 0; j < rig.holes; j++) {
            if (j != spoke && !rig.isGone(j)) {
                rig.pulls[j] = (int) pullAfterBreak(spoke, j);
            }
        }
        rig.kinds[spoke] = GONE;
        rig.pulls[spoke] = 0;
        return had;
    }

    public int anew(int spoke, int kind, int pull) {
        if (!rig.hasHole(spoke) || !canBePut(kind) || !lies(pull, 0, MOST_PULL)) {
            return BAD;
        }
        if (!rig.isGone(spoke)) {
            return NO;
        }
        rig.kinds[spoke] = kind;
        rig.pulls[spoke] = pull;
        return 0;
    }

    public int loaded(int w, int place, int spoke) {
        if (!lies(w, 0, MOST_LOAD) || !rig.hasHole(place) || !rig.hasHole(spoke)) {
            return BAD;
        }
        return pullUnder(w, place, spoke);
    }

    public int worstAt(int w) {
        if (!lies(w, 0, MOST_LOAD)) {
            return BAD;
        }
        int worst = 0;
        int most = 0;
        for (int place = 0; place < rig.holes; place++) {
            int loose = howManyLooseUnder(w, place);
            if (loose > most) {
                most = loose;
                worst = place;
            }
        }
        return worst;
    }

    // ---- lacing

    public int lace(int r, int o, int rim, int c) {
        if (!lies(r, 1, 200) || !lies(o, 0, 200) || !lies(rim, 1, 1000) || !lies(c, 0, 7)) {
            return BAD;
        }
        lacing.flange = r;
        lacing.off = o;
        lacing.rim = rim;
        lacing.crossed = c;
        return 0;
    }

    public int length(int spoke) {
        if (!rig.hasHole(spoke)) {
            return BAD;
        }
        return lacing.tenths(lacing.ahead(rig, spoke));
    }

    public int hub(int spoke) {
        if (!rig.hasHole(spoke)) {
            return BAD;
        }
        return Math.floorMod(lacing.rimHole(rig, spoke) + lacing.ahead(rig, spoke), ROUND);
    }

    public int crosses(int spoke, int other) {
        if (!rig.hasHole(spoke) || !rig.hasHole(other) || spoke == other) {
            return BAD;
        }
        return asNumber(lacing.doCross(rig, spoke, other));
    }

    public int crossings(int spoke) {
        if (!rig.hasHole(spoke)) {
            return BAD;
        }
        int many = 0;
        for (int other = 0; other < rig.holes; other++) {
            if (other != spoke && lacing.doCross(rig, spoke, other)) {
                many++;
            }
        }
        return many;
    }

    public int count(int what) {
        switch (what) {
            case 0: return rig.holes;
            case 1: return rig.howManyStand();
            case 2: return turns.many;
            case 3: return turns.allQuarters();
            case 4: return rig.howManyRead(SIDE);
            case 5: return rig.howManyRead(UP);
            default: return BAD;
        }
    }

    private static boolean lies(int v, int least, int most) {
        return v >= least && v <= most;
    }

    private static boolean isTable(int table) {
        return lies(table, 0, TABLES - 1);
    }

    private static boolean isRow(int row) {
        return lies(row, 0, ROWS - 1);
    }

    private static boolean canBePut(int kind) {
        return lies(kind, SPOKE, STRAIGHT) && kind != GONE;
    }

    private static int asNumber(boolean yes) {
        return yes ? 1 : 0;
    }

    private long pullAfterBreak(int spoke, int j) {
        long share = (long) rig.pulls[spoke] * tables.rows[BREAK][rig.steps(spoke, j)];
        return rig.pulls[j] + Math.floorDiv(share, 1000L);
    }

    private boolean breaksTooMuch(int spoke) {
        for (int j = 0; j < rig.holes; j++) {
            if (j != spoke && !rig.isGone(j) && Math.abs(pullAfterBreak(spoke, j)) > UNBEARABLE) {
                return true;
            }
        }
        return false;
    }

    private int pullUnder(int w, int place, int spoke) {
        if (rig.isGone(spoke)) {
            return 0;
        }
        return rig.pulls[spoke] - Math.floorDiv(w * tables.rows[LOAD][rig.steps(place, spoke)], 1000);
    }

    private int howManyLooseUnder(int w, int place) {
        int many = 0;
        for (int j = 0; j < rig.holes; j++) {
            if (pullUnder(w, place, j) < 0) {
                many++;
            }
        }
        return many;
    }

    /** The tables by steps; places that a row has not are always 0 in it, so that they count as such. */
    private static final class Tables {
        final int[][] rows = new int[TABLES][MOST_PLACES];
        final int[] sizes = {MISSING, MISSING, MISSING, MISSING, MISSING, MISSING};

        void begin(int table, int size) {
            sizes[table] = size;
            for (int i = 0; i < MOST_PLACES; i++) {
                rows[table][i] = 0;
            }
        }

        boolean isMissing(int table) {
            return sizes[table] == MISSING;
        }
    }

    /** The spokes and the rim: what was read, what lies straight between, what turns have made. */
    private static final class Wheel {
        final int[] kinds = new int[MOST_HOLES];
        final int[] pulls = new int[MOST_HOLES];
        final int[][] readings = new int[ROWS][MOST_HOLES];
        final int[][] straight = new int[ROWS][MOST_HOLES];
        final int[][] made = new int[ROWS][MOST_HOLES];
        /** How many steps lie between holes, by how far one is ahead of the other: searches ask this most of all. */
        private final int[] lessWay = new int[MOST_HOLES];
        int holes = FIRST_HOLES;

        void begin(int many) {
            holes = many;
            for (int i = 0; i < many; i++) {
                lessWay[i] = Math.min(i, many - i);
                kinds[i] = i % 2 == 0 ? LEFT : RIGHT;
                pulls[i] = FIRST_PULL;
                for (int row = 0; row < ROWS; row++) {
                    readings[row][i] = NOT_READ;
                    straight[row][i] = 0;
                    made[row][i] = 0;
                }
            }
        }

        boolean hasHole(int i) {
            return lies(i, 0, holes - 1);
        }

        boolean isGone(int spoke) {
            return kinds[spoke] == GONE;
        }

        int leanOf(int spoke) {
            return LEANS[kinds[spoke]];
        }

        int forceOf(int spoke) {
            return FORCES[kinds[spoke]];
        }

        int steps(int i, int j) {
            // the holes are always a power of two, so this is the way round from i on to j
            return lessWay[(j - i) & (holes - 1)];
        }

        int bentAt(int row, int place) {
            return straight[row][place] + made[row][place];
        }

        void layStraight(int row) {
            for (int place = 0; place < holes; place++) {
                straight[row][place] = between(row, place);
            }
        }

        private int between(int row, int place) {
            int[] read = readings[row];
            if (read[place] != NOT_READ) {
                return read[place];
            }
            int back = stepsToRead(row, place, -1);
            int on = stepsToRead(row, place, 1);
            if (back == 0 || on == 0) {
                return 0;
            }
            int behind = read[Math.floorMod(place - back, holes)];
            int ahead = read[Math.floorMod(place + on, holes)];
            return Math.floorDiv(behind * on + ahead * back, back + on);
        }

        /** How far it is to the nearest place that is read; 0, if there is none. */
        private int stepsToRead(int row, int place, int way) {
            for (int i = 1; i < holes; i++) {
                if (readings[row][Math.floorMod(place + way * i, holes)] != NOT_READ) {
                    return i;
                }
            }
            return 0;
        }

        int howManyStand() {
            int many = 0;
            for (int i = 0; i < holes; i++) {
                if (!isGone(i)) {
                    many++;
                }
            }
            return many;
        }

        int howManyRead(int row) {
            int many = 0;
            for (int i = 0; i < holes; i++) {
                if (readings[row][i] != NOT_READ) {
                    many++;
                }
            }
            return many;
        }
    }

    /** Measures the wheel as it would be with one turn more, that is supposed; at rest there is none. */
    private static final class Gauge {
        final Wheel rig;
        final Tables tables;
        final int[] limits;
        private int spoke;
        private int lean;
        private int sideways;
        private int force;
        private long sideTotal;
        private long quarterTotal;
        /** The two that made the spread which was measured last. */
        private int slackest;
        private int tightest;

        Gauge(Wheel rig, Tables tables, int[] limits) {
            this.rig = rig;
            this.tables = tables;
            this.limits = limits;
        }

        /** Takes the sums that stay, whatever is supposed: a search asks for the MIDDLE too often to add it up anew. */
        void rest() {
            suppose(0, 0);
            sideTotal = 0;
            quarterTotal = 0;
            for (int place = 0; place < rig.holes; place++) {
                sideTotal += rig.bentAt(SIDE, place);
                quarterTotal += tables.rows[SIDE][rig.steps(0, place)];
            }
        }

        void suppose(int turned, int quarters) {
            spoke = turned;
            lean = rig.leanOf(turned);
            force = quarters * rig.forceOf(turned);
            sideways = force * lean;
        }

        /** What is supposed is done. */
        void keep() {
            for (int i = 0; i < rig.holes; i++) {
                rig.made[SIDE][i] = readingAt(SIDE, i) - rig.straight[SIDE][i];
                rig.made[UP][i] = readingAt(UP, i) - rig.straight[UP][i];
                rig.pulls[i] = pullOf(i);
            }
            rest();
        }

        int readingAt(int row, int place) {
            int times = row == SIDE ? sideways : force;
            return rig.straight[row][place] + rig.made[row][place] + times * tables.rows[row][rig.steps(spoke, place)];
        }

        int pullOf(int j) {
            if (force == 0 || rig.isGone(j)) {
                return rig.pulls[j];
            }
            int table = rig.leanOf(j) == lean ? PULL : OTHER;
            return rig.pulls[j] + force * tables.rows[table][rig.steps(spoke, j)];
        }

        int middle() {
            return (int) Math.floorDiv(sideTotal + sideways * quarterTotal, (long) rig.holes);
        }

        int spreadOf(int alike) {
            int least = 0;
            int greatest = 0;
            boolean any = false;
            for (int j = 0; j < rig.holes; j++) {
                if (rig.leanOf(j) == alike) {
                    int pull = pullOf(j);
                    if (!any || pull < least) {
                        least = pull;
                        slackest = j;
                    }
                    if (!any || pull > greatest) {
                        greatest = pull;
                        tightest = j;
                    }
                    any = true;
                }
            }
            return greatest - least;
        }

        int worst() {
            long worst = Math.max(share(greatestSize(SIDE), SIDE), share(greatestSize(UP), UP));
            worst = Math.max(worst, share(Math.abs(middle()), OF_MIDDLE));
            worst = Math.max(worst, share(Math.max(spreadOf(1), spreadOf(-1)), OF_SPREAD));
            return (int) Math.min(worst, WORST_OF_ALL);
        }

        private long share(int size, int which) {
            return Math.floorDiv(1000L * size, (long) limits[which]);
        }

        private int greatestSize(int row) {
            int greatest = 0;
            for (int place = 0; place < rig.holes; place++) {
                greatest = Math.max(greatest, Math.abs(readingAt(row, place)));
            }
            return greatest;
        }

        int howManyLoose() {
            int many = 0;
            for (int j = 0; j < rig.holes; j++) {
                if (isLoose(j)) {
                    many++;
                }
            }
            return many;
        }

        private boolean isLoose(int j) {
            return pullOf(j) < 0;
        }

        private boolean isBent(int row, int place) {
            return Math.abs(readingAt(row, place)) > limits[row];
        }

        private boolean isOffMiddle() {
            return Math.abs(middle()) > limits[OF_MIDDLE];
        }

        private boolean bearsTooMuch(int j) {
            return pullOf(j) > limits[OF_PULL];
        }

        /** The number of the first that is not within, as the document has them; or NONE. */
        int firstFault() {
            for (int row = 0; row < ROWS; row++) {
                for (int place = 0; place < rig.holes; place++) {
                    if (isBent(row, place)) {
                        return 100 * row + place;
                    }
                }
            }
            if (isOffMiddle()) {
                return 200;
            }
            if (spreadOf(1) > limits[OF_SPREAD]) {
                return 300;
            }
            if (spreadOf(-1) > limits[OF_SPREAD]) {
                return 301;
            }
            for (int j = 0; j < rig.holes; j++) {
                if (isLoose(j)) {
                    return 400 + j;
                }
            }
            return NONE;
        }

        /** 500 and the first spoke that would bear too much; or NONE. */
        int firstOverload() {
            for (int j = 0; j < rig.holes; j++) {
                if (bearsTooMuch(j)) {
                    return 500 + j;
                }
            }
            return NONE;
        }

        /** Whether the fault that was told last, by its number, is surely there with what is supposed now, too. */
        boolean stillHas(int fault) {
            int which = fault % 100;
            switch (fault / 100) {
                case 0: return isBent(SIDE, which);
                case 1: return isBent(UP, which);
                case 2: return isOffMiddle();
                case 3: return pullOf(tightest) - pullOf(slackest) > limits[OF_SPREAD];
                case 4: return isLoose(which);
                case 5: return bearsTooMuch(which);
                default: return false;
            }
        }

        boolean isRefused() {
            return rig.isGone(spoke) || firstOverload() != NONE;
        }
    }

    /** Looks for the turns that do best. */
    private static final class Search {
        private static final int TRIES = 8;

        final Wheel rig;
        final Gauge gauge;
        /** s, its quarters, t, its quarters, from 1 on. */
        final int[] found = new int[5];
        private int suspect;

        Search(Wheel rig, Gauge gauge) {
            this.rig = rig;
            this.gauge = gauge;
        }

        int bestQuarter() {
            gauge.rest();
            int least = gauge.worst();
            int best = NONE;
            for (int i = 0; i < 2 * rig.holes; i++) {
                gauge.suppose(i >> 1, (i & 1) == 0 ? 1 : -1);
                if (!gauge.isRefused()) {
                    int worst = gauge.worst();
                    if (worst < least) {
                        least = worst;
                        best = i;
                    }
                }
            }
            return best;
        }

        int fewestSpokes() {
            gauge.rest();
            suspect = gauge.firstFault();
            if (suspect == NONE) {
                return 0;
            }
            if (findsOne(0, 1)) {
                return 1;
            }
            return findsTwo() ? 2 : NONE;
        }

        private boolean findsTwo() {
            for (int s = 0; s < rig.holes; s++) {
                for (int i = 0; i < TRIES; i++) {
                    gauge.suppose(s, nearest(i));
                    if (!gauge.isRefused()) {
                        gauge.keep();
                        boolean done = findsOne(s + 1, 3);
                        // KINDS and TABLES are as they were, so this takes back all of it
                        gauge.suppose(s, -nearest(i));
                        gauge.keep();
                        if (done) {
                            found[1] = s;
                            found[2] = nearest(i);
                            return true;
                        }
                    }
                }
            }
            return false;
        }

        /** Finds the first spoke, none below 'from', that brings all within alone; it is put at 'at' and behind. */
        private boolean findsOne(int from, int at) {
            for (int t = from; t < rig.holes; t++) {
                for (int i = 0; i < TRIES && !rig.isGone(t); i++) {
                    gauge.suppose(t, nearest(i));
                    // what failed last is asked first, for mostly it fails again
                    if (gauge.stillHas(suspect)) {
                        continue;
                    }
                    suspect = gauge.firstFault();
                    if (suspect == NONE) {
                        suspect = gauge.firstOverload();
                    }
                    if (suspect == NONE) {
                        found[at] = t;
                        found[at + 1] = nearest(i);
                        return true;
                    }
                }
            }
            return false;
        }

        /** 1, -1, 2, -2 and so on. */
        private static int nearest(int i) {
            int size = (i >> 1) + 1;
            return (i & 1) == 0 ? size : -size;
        }
    }

    /** The turns that were done and not taken back. */
    private static final class TurnLog {
        final int[] spokes = new int[LOG_ROOM];
        final int[] quarters = new int[LOG_ROOM];
        int many;

        boolean isFull() {
            return many >= LOG_ROOM;
        }

        void add(int spoke, int n) {
            if (isFull()) {
                return;
            }
            spokes[many] = spoke;
            quarters[many] = n;
            many++;
        }

        int allQuarters() {
            int all = 0;
            for (int i = 0; i < many; i++) {
                all += Math.abs(quarters[i]);
            }
            return all;
        }
    }

    /** Where spokes go from rim to hub. */
    private static final class Lacing {
        int flange = 20;
        int off = 30;
        int rim = 300;
        int crossed = 3;

        int rimHole(Wheel rig, int spoke) {
            return spoke * ROUND / rig.holes;
        }

        /** How far the hub hole lies ahead of the rim hole; below 0, if it lies behind. */
        int ahead(Wheel rig, int spoke) {
            if (rig.kinds[spoke] == STRAIGHT) {
                return 0;
            }
            int far = 2 * crossed * ROUND / rig.holes;
            return spoke / 2 % 2 == 0 ? far : -far;
        }

        int tenths(int ahead) {
            long squares = 100L * (rim * rim + flange * flange + off * off);
            long nearer = Math.floorDiv(200L * rim * flange * sine(16 + ahead), 1024L);
            return wholeRoot(Math.max(0L, squares - nearer));
        }

        private static int sine(int step) {
            int k = Math.floorMod(step, ROUND);
            if (k > 32) {
                return -halfSine(ROUND - k);
            }
            return halfSine(k);
        }

        private static int halfSine(int k) {
            return SINES[k > 16 ? 32 - k : k];
        }

        /** The longest spoke has a square far below that of 16384. */
        private static int wholeRoot(long square) {
            long root = 0;
            for (long bit = 8192; bit > 0; bit = bit / 2) {
                long more = root + bit;
                if (more * more <= square) {
                    root = more;
                }
            }
            return (int) root;
        }

        boolean doCross(Wheel rig, int s, int t) {
            int lean = rig.leanOf(s);
            if (lean == 0 || lean != rig.leanOf(t)) {
                return false;
            }
            int round = Math.floorMod(rimHole(rig, t) - rimHole(rig, s), ROUND);
            int apart = round + ahead(rig, t) - ahead(rig, s);
            return apart < 0 || apart > ROUND;
        }
    }
}
