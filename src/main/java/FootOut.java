import java.util.Arrays;

/** Stripes on a road, told as texts; README.md says how to use it. */
public final class FootOut {
    public static final int NONE = -1;

    private static final int NO_SUCH = -2;
    private static final int BAD_NUMBER = -3;
    private static final int NOT_NOW = -5;
    private static final int ROW_MISSING = -6;
    private static final int NO_NUMBER = -7;
    private static final int BAD_TEXT = -30;
    private static final int FAR_OFF = -1000;
    private static final int NO_WORST = -1000000;
    private static final int NO_SLIP = -100;

    private static final int TAPE_MOST = 400;
    private static final int LANES_MOST = 4;
    private static final int CARS_MOST = 8;
    private static final int LAW_MOST = 12;
    private static final int OPEN_MOST = 8;
    private static final int LINE_MOST = 30;
    private static final int GAP_MOST = 20;
    private static final int WAITS_MOST = 60;
    private static final int SIGHT_MOST = 200;
    private static final int TICKS_MOST = 99;
    private static final int TRAITS = 8;
    private static final int TRAIT_SETS = 256;
    private static final int LEAVES_MOST = 256;
    private static final int HUMP_PACE = 4;

    private static final int PLACES_MOST = 12;
    private static final int CROSS_MOST = 300;
    private static final int HURT_MOST = 600;
    private static final int MEASURES = 4;
    private static final int MEASURE_SETS = 16;
    private static final int COINS = 1000;
    private static final int WHAT_COST = 20;
    private static final int ROWS = 4;
    private static final int ROW_MOST = 40;
    private static final int IMAGES = 2;
    private static final int COUNTED_MOST = 1000000;
    private static final int SLIP_MOST = 3;

    private static final int UNDECIDED = 0;
    private static final int GOES_ON = 1;
    private static final int STOPS = 2;
    private static final int OVER = 1;
    private static final int KNOCKED = 2;
    private static final int LATE = 3;

    /** A word's number is its place here; the TRAITS come first, then what a FACT may begin with. */
    private static final String WORDS = "old pram foot eye two lamp hump paint near fast lane kind ahead beside passed in not and or lanes car at pace line gap waits sight stop if ";
    private static final int W_OLD = 0;
    private static final int W_HUMP = 6;
    private static final int W_PAINT = 7;
    private static final int W_NEAR = 8;
    private static final int W_FAST = 9;
    private static final int W_LANE = 10;
    private static final int W_KIND = 11;
    private static final int W_AHEAD = 12;
    private static final int W_BESIDE = 13;
    private static final int W_PASSED = 14;
    private static final int W_IN = 15;
    private static final int W_NOT = 16;
    private static final int W_AND = 17;
    private static final int W_OR = 18;
    private static final int W_LANES = 19;
    private static final int W_CAR = 20;
    private static final int W_AT = 21;
    private static final int W_PACE = 22;
    private static final int W_LINE = 23;
    private static final int W_GAP = 24;
    private static final int W_WAITS = 25;
    private static final int W_SIGHT = 26;
    private static final int W_STOP = 27;
    private static final int W_IF = 28;
    /** A step of THE LAW is its word times this, and its N. */
    private static final int STEP = 1000;

    private final byte[] tape = new byte[TAPE_MOST];
    private int taped;
    private final Reader reader = new Reader();
    private final State now = new State();
    private final State[] images = new State[IMAGES];
    private final boolean[] imaged = new boolean[IMAGES];
    private final Road road = new Road(now.scene, now.law);
    private final Tree tree = new Tree();
    /** Whether tree still tells THE SCENE and THE LAW as they are. */
    private boolean weighed;
    private final Scene otherScene = new Scene();
    private final Tree otherTree = new Tree();
    private final long[] overByTraits = new long[TRAIT_SETS];
    private final Spending spending = new Spending();
    private final Row[] rows = new Row[ROWS];
    private final int[] goes = new int[ROW_MOST];
    private final int[] refused = new int[6];

    public FootOut() {
        for (int i = 0; i < IMAGES; i++) {
            images[i] = new State();
        }
        for (int i = 0; i < ROWS; i++) {
            rows[i] = new Row();
        }
    }

    // ---- texts

    public int feed(int a, int b, int c, int d, int e) {
        if (taped + 20 > TAPE_MOST) {
            return refuse(NOT_NOW);
        }
        putOnTape(a);
        putOnTape(b);
        putOnTape(c);
        putOnTape(d);
        putOnTape(e);
        return taped;
    }

    public int text(int what, int n) {
        if (what < 0 || what > 1) {
            return refuse(NO_SUCH);
        }
        if (n < 0 || n > taped) {
            return refuse(BAD_NUMBER);
        }
        taped = 0;
        boolean sound = what == 0 ? reader.readScene(tape, n) : reader.readLaw(tape, n);
        if (!sound) {
            return refuse(BAD_TEXT - reader.faultKind);
        }
        weighed = false;
        if (what == 0) {
            now.scene.take(reader.scene);
            return now.scene.lines;
        }
        now.law.take(reader.law);
        return now.law.lines;
    }

    public int fault(int what) {
        if (what == 0) {
            return reader.faultKind;
        }
        return what == 1 ? reader.faultAt : NONE;
    }

    public int car(int c, int what) {
        if (!isCar(c)) {
            return refuse(NO_SUCH);
        }
        switch (what) {
            case 0:
                return now.scene.lane[c];
            case 1:
                return now.scene.dist[c];
            case 2:
                return now.scene.pace[c];
            case 3:
                return now.scene.kind[c];
            default:
                return refuse(NO_SUCH);
        }
    }

    public int trait(int trait, boolean on) {
        if (trait < 0 || trait >= TRAITS) {
            return refuse(NO_SUCH);
        }
        weighed = false;
        int bit = 1 << trait;
        int was = (now.scene.traits & bit) != 0 ? 1 : 0;
        now.scene.traits = on ? now.scene.traits | bit : now.scene.traits & ~bit;
        return was;
    }

    public int set(int what, int v) {
        if (what < 0 || what > 3) {
            return refuse(NO_SUCH);
        }
        if (v < leastOf(what) || v > mostOf(what)) {
            return refuse(BAD_NUMBER);
        }
        weighed = false;
        return now.scene.change(what, v);
    }

    public int chance(int c) {
        if (!isCar(c)) {
            return refuse(NO_SUCH);
        }
        road.begin(now.scene, NONE);
        return road.percentFor(c);
    }

    public int can(int c) {
        if (!isCar(c)) {
            return refuse(NO_SUCH);
        }
        road.begin(now.scene, NONE);
        return road.hasRoom(c) ? 1 : 0;
    }

    // ---- ticks

    public int run(int seed, int what) {
        if (what < 0 || what > 5) {
            return refuse(NO_SUCH);
        }
        play(seed, TICKS_MOST);
        switch (what) {
            case 0:
                return road.end;
            case 1:
                return road.ticks;
            case 2:
                return road.harm;
            case 3:
                return road.by;
            case 4:
                return road.stopping();
            default:
                return road.stood;
        }
    }

    public int watch(int seed, int t, int c, int what) {
        if (!isCar(c) || t < 0 || t > TICKS_MOST || what < 0 || what > 3) {
            return refuseAs(FAR_OFF);
        }
        play(seed, t);
        switch (what) {
            case 0:
                return road.dist[c];
            case 1:
                return road.pace[c];
            case 2:
                return road.mind[c];
            default:
                return road.held[c] ? 1 : 0;
        }
    }

    public int stands(int seed, int t) {
        if (t < 0 || t > TICKS_MOST) {
            return refuse(BAD_NUMBER);
        }
        play(seed, t);
        return 10 * road.past + (road.inLane ? 1 : 0);
    }

    public int tries(int s, int n, int how) {
        if (how < 1 || how > 5) {
            return refuse(NO_SUCH);
        }
        if (n < 1 || n > 60) {
            return refuse(BAD_NUMBER);
        }
        int sum = 0;
        for (int i = 0; i < n; i++) {
            play(s + i, TICKS_MOST);
            if (how == 4) {
                sum += road.harm;
            } else if (how == 5) {
                sum += road.ticks;
            } else if (road.end == how) {
                sum++;
            }
        }
        return sum;
    }

    public long odds(int what) {
        if (what < 0 || what > 5) {
            return refuse(NO_SUCH);
        }
        weighNow();
        switch (what) {
            case 0:
                return tree.over;
            case 1:
                return tree.knocked;
            case 2:
                return tree.late;
            case 3:
                return tree.ticks;
            case 4:
                return tree.harm;
            default:
                return tree.all;
        }
    }

    public long helps(int trait) {
        if (trait < 0 || trait >= TRAITS) {
            return refuse(NO_SUCH);
        }
        weighNow();
        otherScene.take(now.scene);
        otherScene.traits ^= 1 << trait;
        otherTree.weigh(road, otherScene, NONE);
        return otherTree.over - tree.over;
    }

    public int best(int k) {
        if (k < 0 || k > 3) {
            return refuse(BAD_NUMBER);
        }
        // TRAITS that neither THE LAW nor the TICKS ask for change nothing: their sets need no weighing.
        int asked = now.law.traitsAsked() | 1 << W_OLD | 1 << W_HUMP;
        Arrays.fill(overByTraits, NONE);
        otherScene.take(now.scene);
        long most = NONE;
        int found = 0;
        for (int bits = 0; bits < TRAIT_SETS; bits++) {
            if (Integer.bitCount(bits) == k) {
                int traits = (now.scene.traits ^ bits) & asked;
                if (overByTraits[traits] < 0) {
                    otherScene.traits = traits;
                    otherTree.weigh(road, otherScene, NONE);
                    overByTraits[traits] = otherTree.over;
                }
                if (overByTraits[traits] > most) {
                    most = overByTraits[traits];
                    found = bits;
                }
                if (most == otherTree.all) {
                    return found;
                }
            }
        }
        return found;
    }

    public int back(int most) {
        if (most < 0 || most > 1000) {
            return refuse(BAD_NUMBER);
        }
        otherScene.take(now.scene);
        for (int line = 0; line <= LINE_MOST; line++) {
            otherScene.line = line;
            otherTree.weigh(road, otherScene, NONE);
            long all = otherTree.all;
            // most times all may be beyond a long; all is parted to keep it within.
            long allowed = all / 1000 * most + all % 1000 * most / 1000;
            if (otherTree.knocked <= allowed) {
                return line;
            }
        }
        return NONE;
    }

    public int wise(int what) {
        if (what < 0 || what > 1) {
            return refuse(NO_SUCH);
        }
        int last = what == 0 ? WAITS_MOST : GAP_MOST;
        otherScene.take(now.scene);
        long most = NONE;
        int found = 0;
        for (int v = 0; v <= last; v++) {
            otherScene.change(what == 0 ? 2 : 1, v);
            otherTree.weigh(road, otherScene, NONE);
            if (otherTree.over > most) {
                most = otherTree.over;
                found = v;
            }
            // No greater one can be better, or do otherwise than one that she never had to wait for.
            if (most == otherTree.all || what == 0 && otherTree.longest < v) {
                return found;
            }
        }
        return found;
    }

    public long blame(int c, int what) {
        if (!isCar(c) || what < 0 || what > 1) {
            return refuse(NO_SUCH);
        }
        weighNow();
        return what == 0 ? tree.knockedBy[c] : tree.stopping[c];
    }

    public long mean(int what) {
        if (what < 0 || what > 1) {
            return refuse(NO_SUCH);
        }
        weighNow();
        long common = commonDivisor(tree.ticks, tree.all);
        return (what == 0 ? tree.ticks : tree.all) / common;
    }

    public long repeals(int k) {
        if (k < 0 || k >= now.law.lines) {
            return refuse(NO_SUCH);
        }
        weighNow();
        otherTree.weigh(road, now.scene, k);
        return otherTree.over - tree.over;
    }

    public long absent(int c) {
        if (!isCar(c)) {
            return refuse(NO_SUCH);
        }
        weighNow();
        otherScene.take(now.scene);
        otherScene.leaveOut(c);
        otherTree.weigh(road, otherScene, NONE);
        return 100 * otherTree.knocked - tree.knocked;
    }

    public int margin(int seed) {
        road.choices.drawFrom(seed);
        road.begin(now.scene, NONE);
        int least = NONE;
        for (int t = 0; t < TICKS_MOST && road.end == 0; t++) {
            road.tick();
            int nearest = road.nearestInHerLane();
            if (nearest != NONE && (least == NONE || nearest < least)) {
                least = nearest;
            }
        }
        return least;
    }

    // ---- places

    public int place(boolean painted, int old, int others, int hurtOld, int hurtOthers) {
        if (now.places.size >= PLACES_MOST) {
            return refuse(NOT_NOW);
        }
        if (!isWithin(old, CROSS_MOST) || !isWithin(others, CROSS_MOST)
                || !isWithin(hurtOld, old) || !isWithin(hurtOthers, others)) {
            return refuse(BAD_NUMBER);
        }
        spending.known = NONE;
        Places places = now.places;
        int p = places.size;
        places.painted[p] = painted ? 1 : 0;
        places.old[p] = old;
        places.others[p] = others;
        places.hurtOld[p] = hurtOld;
        places.hurtOthers[p] = hurtOthers;
        places.yearBehind[p] = 0;
        places.size++;
        return p;
    }

    public int behind(int p, int hurt) {
        if (!isPlace(p)) {
            return refuse(NO_SUCH);
        }
        if (!isWithin(hurt, HURT_MOST)) {
            return refuse(BAD_NUMBER);
        }
        int was = now.places.yearBehind[p];
        now.places.yearBehind[p] = hurt;
        return was;
    }

    public int at(int p, int what) {
        if (!isPlace(p)) {
            return refuse(NO_SUCH);
        }
        switch (what) {
            case 0:
                return now.places.painted[p];
            case 1:
                return now.places.old[p];
            case 2:
                return now.places.others[p];
            case 3:
                return now.places.hurtOld[p];
            case 4:
                return now.places.hurtOthers[p];
            case 5:
                return now.places.yearBehind[p];
            default:
                return refuse(NO_SUCH);
        }
    }

    public int rate(boolean painted, int what) {
        if (what < 0 || what > 1) {
            return refuse(NO_SUCH);
        }
        Places places = now.places;
        int hurt = places.sumOf(places.hurtOld, painted) + places.sumOf(places.hurtOthers, painted);
        int cross = places.sumOf(places.old, painted) + places.sumOf(places.others, painted);
        if (cross == 0) {
            return what;
        }
        return (what == 0 ? hurt : cross) / (int) commonDivisor(hurt, cross);
    }

    public int parted() {
        Places places = now.places;
        long withPaint = places.partedAbove(true) * places.partedBelow(false);
        long bare = places.partedAbove(false) * places.partedBelow(true);
        if (withPaint == bare) {
            return 0;
        }
        return withPaint > bare ? 1 : 2;
    }

    public int worst(int k, int what) {
        Places places = now.places;
        if (!isWithin(k, places.size) || !isWithin(what, 3)
                || what >= 2 && places.size - k < k) {
            return refuseAs(NO_WORST);
        }
        int bits = places.worstOf(k);
        switch (what) {
            case 0:
                return bits;
            case 1:
                return places.fallOf(bits);
            case 2:
                return places.fallOf(places.matchesOf(bits));
            default:
                return places.matchesOf(bits);
        }
    }

    public int ranked(int k) {
        for (int p = 0; p < now.places.size; p++) {
            if (now.places.rankOf(p) == k) {
                return p;
            }
        }
        return NONE;
    }

    public int measure(int m, int cost, int left) {
        if (m < 0 || m >= MEASURES) {
            return refuse(NO_SUCH);
        }
        if (cost < 1 || cost > 99 || !isWithin(left, 100)) {
            return refuse(BAD_NUMBER);
        }
        spending.known = NONE;
        now.places.cost[m] = cost;
        now.places.leaves[m] = left;
        return 0;
    }

    public int spent(int coin, int what) {
        if (what != NONE && what != WHAT_COST && !isPlace(what)) {
            return refuse(NO_SUCH);
        }
        if (coin < 0 || coin >= COINS) {
            return refuse(BAD_NUMBER);
        }
        spending.weighUpTo(now.places, coin);
        if (what == NONE) {
            return (int) (spending.least[coin] / COINS);
        }
        if (what == WHAT_COST) {
            return (int) (spending.least[coin] % COINS);
        }
        return (int) (spending.chosen[coin] >> spending.shiftOf(now.places, what)) & (MEASURE_SETS - 1);
    }

    // ---- fines, lamps, rests, thanks, counts

    public int fine(int now, int base, int d, int months) {
        if (!isFine(now, base, d) || !isWithin(months, 60)) {
            return refuse(BAD_NUMBER);
        }
        int stop = now;
        for (int m = 0; m < months; m++) {
            stop = monthOn(stop, base, d);
        }
        return stop;
    }

    public int until(int now, int base, int d, int near) {
        if (!isFine(now, base, d) || !isWithin(near, 1000)) {
            return refuse(BAD_NUMBER);
        }
        int stop = now;
        for (int m = 0; m <= 999; m++) {
            if (Math.abs(stop - base) <= near) {
                return m;
            }
            stop = monthOn(stop, base, d);
        }
        return NONE;
    }

    public int lot(int p, int q) {
        if (!isWithin(p, 1000) || !isWithin(q, 1000)) {
            return refuse(BAD_NUMBER);
        }
        int each = (p - q) * (p - q);
        int needed = 4 * (p * (1000 - p) + q * (1000 - q));
        if (needed == 0) {
            return 1;
        }
        if (each == 0) {
            return NONE;
        }
        int n = (needed + each - 1) / each;
        return n <= 9999 ? n : NONE;
    }

    public int shown(int a, int n, int b, int m) {
        if (n < 1 || n > 300 || m < 1 || m > 300 || !isWithin(a, n) || !isWithin(b, m)) {
            return refuse(BAD_NUMBER);
        }
        long apart = (long) a * m - (long) b * n;
        long spread = (long) a * (n - a) * m * m * m + (long) b * (m - b) * n * n * n;
        return apart != 0 && apart * apart * n * m >= 4 * spread ? 1 : 0;
    }

    public int clumps(int row, int c, int g, int what) {
        if (!isRow(row) || what < 0 || what > 2) {
            return refuse(NO_SUCH);
        }
        if (!rows[row].there) {
            return refuse(ROW_MISSING);
        }
        if (!rows[row].isWithin(9999) || c < 2 || c > 999 || g < 1 || g >= c) {
            return refuse(BAD_NUMBER);
        }
        int size = rows[row].size;
        int waited = 0;
        for (int i = 0; i < size; i++) {
            int t = (int) rows[row].values[i];
            int wait = t % c < g ? 0 : c - t % c;
            goes[i] = t + wait;
            waited += wait;
        }
        if (what == 0) {
            return waited;
        }
        return what == 1 ? greatestClump(size) : differentGoes(size);
    }

    public int lamp(int cars, int walkers, int what) {
        if (what < 0 || what > 1) {
            return refuse(NO_SUCH);
        }
        if (!isWithin(cars, 999) || !isWithin(walkers, 999)) {
            return refuse(BAD_NUMBER);
        }
        int cycle = 0;
        int green = 0;
        long least = 0;
        for (int c = 20; c <= 120; c++) {
            for (int g = 5; g <= c - 10; g++) {
                long waits = cars * g * g + walkers * (c - g) * (c - g);
                if (cycle == 0 || waits * cycle < least * c) {
                    cycle = c;
                    green = g;
                    least = waits;
                }
            }
        }
        return what == 0 ? cycle : green;
    }

    public int pay(int who, int doing, int n, int v) {
        if (!isWithin(who, 1) || !isWithin(doing, 1) || !isWithin(n, 4) || v < -99 || v > 99) {
            return refuseAs(FAR_OFF);
        }
        int i = State.payIndex(who, doing, n);
        int was = now.pays[i];
        now.pays[i] = v;
        return was;
    }

    public int rests(int k, int m, int what) {
        if (what < 0 || what > 1) {
            return refuse(NO_SUCH);
        }
        if (!isWithin(k, 4) || !isWithin(m, 4)) {
            return refuse(BAD_NUMBER);
        }
        int found = 0;
        int first = NONE;
        for (int i = 0; i <= k; i++) {
            for (int j = 0; j <= m; j++) {
                if (now.areContent(0, i, k, j) && now.areContent(1, j, m, i)) {
                    found++;
                    first = first == NONE ? 10 * i + j : first;
                }
            }
        }
        return what == 0 ? found : first;
    }

    public int thanks(int s, int t, int a, int b, int n) {
        if (!isWithin(s, 1000000) || !isWithin(t, 100) || !isWithin(a, 100) || !isWithin(b, 100)
                || !isWithin(n, 99)) {
            return refuse(BAD_NUMBER);
        }
        long stop = s;
        for (int i = 0; i < n; i++) {
            long thanked = stop * t;
            stop = (thanked * a + (100000000L - thanked) * b) / 10000;
        }
        return (int) stop;
    }

    public int filled(int row, int i) {
        if (!isRow(row)) {
            return refuse(NO_SUCH);
        }
        if (!rows[row].there) {
            return refuse(ROW_MISSING);
        }
        if (i < 0 || i >= rows[row].size) {
            return refuse(NO_NUMBER);
        }
        if (rows[row].isBeyondCounts()) {
            return refuse(BAD_NUMBER);
        }
        return rows[row].countAt(i);
    }

    public int slip(int row, int other) {
        if (!isRow(row) || !isRow(other) || !rows[row].hasCounts() || !rows[other].hasCounts()) {
            return refuseAs(NO_SLIP);
        }
        int found = 0;
        long least = rows[row].apartFrom(rows[other], 0);
        long shared = rows[row].sharedWith(rows[other], 0);
        for (int far = 1; far <= SLIP_MOST; far++) {
            for (int by = -far; by <= far; by += 2 * far) {
                long sum = rows[row].apartFrom(rows[other], by);
                long both = rows[row].sharedWith(rows[other], by);
                if (both > 0 && sum * shared < least * both) {
                    found = by;
                    least = sum;
                    shared = both;
                }
            }
        }
        return found;
    }

    // ---- rows of numbers, images

    public int numbers(int row, int sort, int n) {
        if (!isRow(row) || sort < 0 || sort > 3) {
            return refuse(NO_SUCH);
        }
        if (!isWithin(n, ROW_MOST)) {
            return refuse(BAD_NUMBER);
        }
        rows[row].there = true;
        rows[row].sort = sort;
        rows[row].size = n;
        Arrays.fill(rows[row].values, 0);
        return 0;
    }

    public long write(int row, int i, long v) {
        if (!isRow(row)) {
            return refuse(NO_SUCH);
        }
        if (!rows[row].there) {
            return refuse(ROW_MISSING);
        }
        if (i < 0 || i >= rows[row].size) {
            return refuse(NO_NUMBER);
        }
        rows[row].values[i] = rows[row].cut(v);
        return rows[row].values[i];
    }

    public int image(int i) {
        if (i < 0 || i >= IMAGES) {
            return refuse(NO_SUCH);
        }
        images[i].take(now);
        imaged[i] = true;
        return 0;
    }

    public int restore(int i) {
        if (i < 0 || i >= IMAGES) {
            return refuse(NO_SUCH);
        }
        if (!imaged[i]) {
            return refuse(NOT_NOW);
        }
        now.take(images[i]);
        weighed = false;
        spending.known = NONE;
        return 0;
    }

    public int status(int what) {
        return what >= 0 && what < refused.length ? refused[what] : NONE;
    }

    public int count(int what) {
        Scene scene = now.scene;
        switch (what) {
            case 0:
                return scene.lanes;
            case 1:
                return scene.cars;
            case 2:
                return scene.traits;
            case 3:
                return scene.line;
            case 4:
                return scene.gap;
            case 5:
                return scene.waits;
            case 6:
                return scene.sight;
            case 7:
                return now.law.lines;
            case 8:
                return now.places.size;
            case 9:
                return taped;
            case 10:
                return scene.lines;
            default:
                return NONE;
        }
    }

    // ---- what the calls share

    private int refuse(int code) {
        switch (code) {
            case NO_SUCH:
                refused[0]++;
                break;
            case BAD_NUMBER:
                refused[1]++;
                break;
            case NOT_NOW:
                refused[2]++;
                break;
            case ROW_MISSING:
                refused[3]++;
                break;
            case NO_NUMBER:
                refused[4]++;
                break;
            default:
                refused[5]++;
                break;
        }
        return code;
    }

    /** For the calls whose answers may be -2 otherwise: they have a code of their own, counted as -2. */
    private int refuseAs(int answer) {
        refused[0]++;
        return answer;
    }

    private void putOnTape(int four) {
        for (int shift = 24; shift >= 0 && taped < TAPE_MOST; shift -= 8) {
            tape[taped] = (byte) (four >> shift);
            taped++;
        }
    }

    private boolean isCar(int c) {
        return c >= 0 && c < now.scene.cars;
    }

    private boolean isPlace(int p) {
        return p >= 0 && p < now.places.size;
    }

    private static boolean isRow(int row) {
        return row >= 0 && row < ROWS;
    }

    private static boolean isWithin(int v, int most) {
        return v >= 0 && v <= most;
    }

    private static boolean isFine(int now, int base, int d) {
        return isWithin(now, 1000) && isWithin(base, 1000) && isWithin(d, 100);
    }

    /** The bounds of LINE, GAP, WAITS and SIGHT, by the number that set() knows them by. */
    private static int leastOf(int what) {
        return what == 3 ? 1 : 0;
    }

    private static int mostOf(int what) {
        switch (what) {
            case 0:
                return LINE_MOST;
            case 1:
                return GAP_MOST;
            case 2:
                return WAITS_MOST;
            default:
                return SIGHT_MOST;
        }
    }

    private void play(int seed, int most) {
        road.choices.drawFrom(seed);
        road.begin(now.scene, NONE);
        for (int t = 0; t < most && road.end == 0; t++) {
            road.tick();
        }
    }

    private void weighNow() {
        if (!weighed) {
            tree.weigh(road, now.scene, NONE);
            weighed = true;
        }
    }

    /** At least 1, so that it may divide. */
    private static long commonDivisor(long a, long b) {
        long x = a;
        long y = b;
        for (int i = 0; i < 200 && y != 0; i++) {
            long rest = x % y;
            x = y;
            y = rest;
        }
        return Math.max(x, 1);
    }

    private static int monthOn(int stop, int base, int d) {
        return stop + (base - stop) * d / 100;
    }

    private int greatestClump(int size) {
        int most = 0;
        for (int i = 0; i < size; i++) {
            int together = 0;
            for (int j = 0; j < size; j++) {
                together += goes[j] == goes[i] ? 1 : 0;
            }
            most = Math.max(most, together);
        }
        return most;
    }

    private int differentGoes(int size) {
        int different = 0;
        for (int i = 0; i < size; i++) {
            boolean isNew = true;
            for (int j = 0; j < i; j++) {
                isNew = isNew && goes[j] != goes[i];
            }
            different += isNew ? 1 : 0;
        }
        return different;
    }

    /** THE SCENE as told. */
    private static final class Scene {
        int lanes = 1;
        int cars;
        final int[] lane = new int[CARS_MOST];
        final int[] dist = new int[CARS_MOST];
        final int[] pace = new int[CARS_MOST];
        final int[] kind = new int[CARS_MOST];
        int traits;
        int line;
        int gap = 3;
        int waits = 20;
        int sight = 40;
        int lines;

        void clear() {
            lanes = 1;
            cars = 0;
            traits = 0;
            line = 0;
            gap = 3;
            waits = 20;
            sight = 40;
            lines = 0;
        }

        void take(Scene other) {
            lanes = other.lanes;
            cars = other.cars;
            System.arraycopy(other.lane, 0, lane, 0, CARS_MOST);
            System.arraycopy(other.dist, 0, dist, 0, CARS_MOST);
            System.arraycopy(other.pace, 0, pace, 0, CARS_MOST);
            System.arraycopy(other.kind, 0, kind, 0, CARS_MOST);
            traits = other.traits;
            line = other.line;
            gap = other.gap;
            waits = other.waits;
            sight = other.sight;
            lines = other.lines;
        }

        boolean hasTrait(int trait) {
            return (traits >> trait & 1) != 0;
        }

        /** LINE, GAP, WAITS or SIGHT by its number becomes v; answers what it was. */
        int change(int what, int v) {
            int was;
            switch (what) {
                case 0:
                    was = line;
                    line = v;
                    return was;
                case 1:
                    was = gap;
                    gap = v;
                    return was;
                case 2:
                    was = waits;
                    waits = v;
                    return was;
                default:
                    was = sight;
                    sight = v;
                    return was;
            }
        }

        void leaveOut(int c) {
            for (int i = c; i + 1 < cars; i++) {
                lane[i] = lane[i + 1];
                dist[i] = dist[i + 1];
                pace[i] = pace[i + 1];
                kind[i] = kind[i + 1];
            }
            cars--;
        }

        int lanesNeeded() {
            int needed = 1;
            for (int c = 0; c < cars; c++) {
                needed = Math.max(needed, lane[c] + 1);
            }
            return needed;
        }
    }

    /** THE LAW: of each line how many of a hundred, and the steps of its TEST, operators behind what they join. */
    private static final class Law {
        int lines;
        final int[] percent = new int[LAW_MOST];
        final int[] stepsEnd = new int[LAW_MOST];
        final int[] steps = new int[TAPE_MOST];
        int size;

        void clear() {
            lines = 0;
            size = 0;
        }

        void take(Law other) {
            lines = other.lines;
            System.arraycopy(other.percent, 0, percent, 0, LAW_MOST);
            System.arraycopy(other.stepsEnd, 0, stepsEnd, 0, LAW_MOST);
            System.arraycopy(other.steps, 0, steps, 0, other.size);
            size = other.size;
        }

        /** Always true: each step has a TOKEN of its own, so there is room. */
        boolean addStep(int word, int n) {
            if (size < TAPE_MOST) {
                steps[size] = word * STEP + n;
                size++;
            }
            return true;
        }

        void endLine(int stopOf) {
            if (lines < LAW_MOST) {
                percent[lines] = stopOf;
                stepsEnd[lines] = size;
                lines++;
            }
        }

        int traitsAsked() {
            int asked = 0;
            for (int i = 0; i < size; i++) {
                int word = steps[i] / STEP;
                asked |= word <= W_PAINT ? 1 << word : 0;
            }
            return asked;
        }
    }

    /** PLACES, and the MEASURES that can be had for them. */
    private static final class Places {
        int size;
        final int[] painted = new int[PLACES_MOST];
        final int[] old = new int[PLACES_MOST];
        final int[] others = new int[PLACES_MOST];
        final int[] hurtOld = new int[PLACES_MOST];
        final int[] hurtOthers = new int[PLACES_MOST];
        final int[] yearBehind = new int[PLACES_MOST];
        final int[] cost = {1, 1, 1, 1};
        final int[] leaves = {100, 100, 100, 100};

        void take(Places other) {
            size = other.size;
            System.arraycopy(other.painted, 0, painted, 0, PLACES_MOST);
            System.arraycopy(other.old, 0, old, 0, PLACES_MOST);
            System.arraycopy(other.others, 0, others, 0, PLACES_MOST);
            System.arraycopy(other.hurtOld, 0, hurtOld, 0, PLACES_MOST);
            System.arraycopy(other.hurtOthers, 0, hurtOthers, 0, PLACES_MOST);
            System.arraycopy(other.yearBehind, 0, yearBehind, 0, PLACES_MOST);
            System.arraycopy(other.cost, 0, cost, 0, MEASURES);
            System.arraycopy(other.leaves, 0, leaves, 0, MEASURES);
        }

        int hurtAt(int p) {
            return hurtOld[p] + hurtOthers[p];
        }

        int sumOf(int[] numbers, boolean ofPainted) {
            int sum = 0;
            for (int p = 0; p < size; p++) {
                sum += painted[p] != 0 == ofPainted ? numbers[p] : 0;
            }
            return sum;
        }

        /** What PARTED weighs is a fraction: this one by partedBelow. */
        long partedAbove(boolean ofPainted) {
            long allOld = sumOf(old, true) + sumOf(old, false);
            long allOthers = sumOf(others, true) + sumOf(others, false);
            return sumOf(hurtOld, ofPainted) * allOld * Math.max(sumOf(others, ofPainted), 1)
                    + sumOf(hurtOthers, ofPainted) * allOthers * Math.max(sumOf(old, ofPainted), 1);
        }

        long partedBelow(boolean ofPainted) {
            return (long) Math.max(sumOf(old, ofPainted), 1) * Math.max(sumOf(others, ofPainted), 1);
        }

        int worstOf(int k) {
            int bits = 0;
            for (int n = 0; n < k; n++) {
                int most = NONE;
                int found = 0;
                for (int p = 0; p < size; p++) {
                    if ((bits >> p & 1) == 0 && hurtAt(p) > most) {
                        most = hurtAt(p);
                        found = p;
                    }
                }
                bits |= 1 << found;
            }
            return bits;
        }

        int matchesOf(int worstBits) {
            int taken = 0;
            for (int p = 0; p < size; p++) {
                if ((worstBits >> p & 1) != 0) {
                    taken |= 1 << likest(p, worstBits | taken);
                }
            }
            return taken;
        }

        int likest(int p, int without) {
            int least = HURT_MOST + 1;
            int found = 0;
            for (int q = 0; q < size; q++) {
                int apart = Math.abs(hurtAt(q) - hurtAt(p));
                if ((without >> q & 1) == 0 && apart < least) {
                    least = apart;
                    found = q;
                }
            }
            return found;
        }

        int fallOf(int bits) {
            int sum = 0;
            for (int p = 0; p < size; p++) {
                sum += (bits >> p & 1) != 0 ? hurtAt(p) - yearBehind[p] : 0;
            }
            return sum;
        }

        /** How many PLACES come ahead of this one by who is hurt by who crosses. */
        int rankOf(int p) {
            int rank = 0;
            for (int q = 0; q < size; q++) {
                int of = hurtAt(q) * Math.max(old[p] + others[p], 1);
                int than = hurtAt(p) * Math.max(old[q] + others[q], 1);
                rank += of > than || of == than && q < p ? 1 : 0;
            }
            return rank;
        }

        int leftAt(int p, int measures) {
            int left = hurtAt(p) * 10000;
            for (int m = 0; m < MEASURES; m++) {
                left = (measures >> m & 1) != 0 ? left * leaves[m] / 100 : left;
            }
            return left;
        }

        int costOf(int measures) {
            int sum = 0;
            for (int m = 0; m < MEASURES; m++) {
                sum += (measures >> m & 1) != 0 ? cost[m] : 0;
            }
            return sum;
        }
    }

    /** What an IMAGE holds. */
    private static final class State {
        final Scene scene = new Scene();
        final Law law = new Law();
        final Places places = new Places();
        final int[] pays = new int[20];

        static int payIndex(int who, int doing, int n) {
            return who * 10 + doing * 5 + n;
        }

        void take(State other) {
            scene.take(other.scene);
            law.take(other.law);
            places.take(other.places);
            System.arraycopy(other.pays, 0, pays, 0, pays.length);
        }

        /** Whether none of these, of whom so many go, would have more by doing otherwise. */
        boolean areContent(int who, int going, int all, int othersGoing) {
            int goingHas = pays[payIndex(who, 1, othersGoing)];
            int stoppingHas = pays[payIndex(who, 0, othersGoing)];
            return (going == 0 || goingHas >= stoppingHas) && (going == all || stoppingHas >= goingHas);
        }
    }

    /** Reads texts into a SCENE and a LAW of its own, so that a FAULT spoils nothing. */
    private static final class Reader {
        private static final int END = 0;
        private static final int BAD = 1;
        private static final int WORD = 2;
        private static final int NUMBER = 3;
        private static final int SIGN = 4;

        private static final int DIGITS_MOST = 3;
        private static final int F_NO_TOKEN = 1;
        private static final int F_MISFIT = 2;
        private static final int F_BOUNDS = 3;
        private static final int F_TOO_MANY = 4;
        private static final int F_TOO_DEEP = 5;

        final Scene scene = new Scene();
        final Law law = new Law();
        int faultKind;
        int faultAt = NONE;
        private byte[] bytes = {};
        private int length;
        private int next;
        private int token;
        private int start;
        private int value;
        private int taken;

        boolean readScene(byte[] from, int n) {
            begin(from, n);
            scene.clear();
            for (int i = 0; i <= n && token != END; i++) {
                if (!readSceneLine() || !takeSign(';')) {
                    return false;
                }
                scene.lines++;
            }
            return true;
        }

        boolean readLaw(byte[] from, int n) {
            begin(from, n);
            law.clear();
            for (int i = 0; i <= n && token != END; i++) {
                if (isWord(W_STOP) && law.lines >= LAW_MOST) {
                    return wrong(F_TOO_MANY);
                }
                if (!takeWord(W_STOP) || !takeNumber(0, 100)) {
                    return false;
                }
                int stopOf = taken;
                if (!takeWord(W_IF) || !readTest(0) || !takeSign(';')) {
                    return false;
                }
                law.endLine(stopOf);
            }
            return true;
        }

        private void begin(byte[] from, int n) {
            bytes = from;
            length = Math.min(n, from.length);
            next = 0;
            faultKind = 0;
            faultAt = NONE;
            advance();
        }

        private boolean readSceneLine() {
            if (token != WORD || value < 0) {
                return misfit();
            }
            if (value <= W_PAINT) {
                scene.traits |= 1 << value;
                advance();
                return true;
            }
            switch (value) {
                case W_LANES:
                    return readLanes();
                case W_CAR:
                    return readCar();
                case W_LINE:
                    return readSetting(0);
                case W_GAP:
                    return readSetting(1);
                case W_WAITS:
                    return readSetting(2);
                case W_SIGHT:
                    return readSetting(3);
                default:
                    return misfit();
            }
        }

        private boolean readLanes() {
            advance();
            if (!takeNumber(scene.lanesNeeded(), LANES_MOST)) {
                return false;
            }
            scene.lanes = taken;
            return true;
        }

        private boolean readSetting(int what) {
            advance();
            if (!takeNumber(leastOf(what), mostOf(what))) {
                return false;
            }
            scene.change(what, taken);
            return true;
        }

        private boolean readCar() {
            int c = scene.cars;
            if (c >= CARS_MOST) {
                return wrong(F_TOO_MANY);
            }
            advance();
            if (!takeNumber(0, scene.lanes - 1)) {
                return false;
            }
            scene.lane[c] = taken;
            if (!takeWord(W_AT) || !takeNumber(1, 200)) {
                return false;
            }
            scene.dist[c] = taken;
            if (!takeWord(W_PACE) || !takeNumber(1, 9)) {
                return false;
            }
            scene.pace[c] = taken;
            if (!takeWord(W_KIND) || !takeNumber(0, 3)) {
                return false;
            }
            scene.kind[c] = taken;
            scene.cars++;
            return true;
        }

        /** open: how many not and ( are open around it. */
        private boolean readTest(int open) {
            boolean behindOr = false;
            boolean behindAnd = false;
            for (int i = 0; i <= length; i++) {
                if (!readFact(open)) {
                    return false;
                }
                if (behindAnd) {
                    law.addStep(W_AND, 0);
                }
                behindAnd = isWord(W_AND);
                if (!behindAnd) {
                    if (behindOr) {
                        law.addStep(W_OR, 0);
                    }
                    behindOr = isWord(W_OR);
                    if (!behindOr) {
                        return true;
                    }
                }
                advance();
            }
            return false;
        }

        private boolean readFact(int open) {
            boolean opens = token == SIGN && value == '(';
            if ((opens || isWord(W_NOT)) && open >= OPEN_MOST) {
                return wrong(F_TOO_DEEP);
            }
            if (opens) {
                advance();
                return readTest(open + 1) && takeSign(')');
            }
            if (isWord(W_NOT)) {
                advance();
                return readFact(open + 1) && law.addStep(W_NOT, 0);
            }
            if (token != WORD || value < 0 || value > W_IN) {
                return misfit();
            }
            int word = value;
            advance();
            if (word < W_NEAR || word > W_KIND) {
                return law.addStep(word, 0);
            }
            return takeNumber(0, STEP - 1) && law.addStep(word, taken);
        }

        private boolean isWord(int word) {
            return token == WORD && value == word;
        }

        private boolean takeWord(int word) {
            if (!isWord(word)) {
                return misfit();
            }
            advance();
            return true;
        }

        private boolean takeSign(char sign) {
            if (token != SIGN || value != sign) {
                return misfit();
            }
            advance();
            return true;
        }

        private boolean takeNumber(int least, int most) {
            if (token != NUMBER) {
                return misfit();
            }
            if (value < least || value > most) {
                return wrong(F_BOUNDS);
            }
            taken = value;
            advance();
            return true;
        }

        private boolean misfit() {
            return wrong(token == BAD ? F_NO_TOKEN : F_MISFIT);
        }

        private boolean wrong(int kind) {
            faultKind = kind;
            faultAt = start;
            return false;
        }

        /** Goes on to the next TOKEN; what it may be there is for the reading to say. */
        private void advance() {
            while (next < length && (bytes[next] == ' ' || bytes[next] == '\n')) {
                next++;
            }
            start = next;
            value = 0;
            while (next < length && bytes[next] >= '0' && bytes[next] <= '9') {
                value = next - start < DIGITS_MOST ? value * 10 + bytes[next] - '0' : value;
                next++;
            }
            if (next > start) {
                token = next - start > DIGITS_MOST ? BAD : NUMBER;
                return;
            }
            while (next < length && bytes[next] >= 'a' && bytes[next] <= 'z') {
                next++;
            }
            if (next > start) {
                token = WORD;
                value = wordNumber();
                return;
            }
            if (next >= length) {
                token = END;
                return;
            }
            value = bytes[next];
            token = value == ';' || value == '(' || value == ')' ? SIGN : BAD;
            next++;
        }

        /** NONE for a word that is in no LINE. */
        private int wordNumber() {
            int number = 0;
            int alike = 0;
            for (int i = 0; i < WORDS.length(); i++) {
                char sign = WORDS.charAt(i);
                if (sign != ' ') {
                    boolean same = alike >= 0 && start + alike < next && bytes[start + alike] == sign;
                    alike = same ? alike + 1 : NONE;
                } else if (alike == next - start) {
                    return number;
                } else {
                    number++;
                    alike = 0;
                }
            }
            return NONE;
        }
    }

    /** What drivers decide where both may be: by DRAWS, or one way behind the other until all were gone. */
    private static final class Choices {
        private boolean drawn;
        private int x;
        private final boolean[] path = new boolean[CARS_MOST];
        private int made;
        int asked;
        long parts = 1;

        void drawFrom(int seed) {
            drawn = true;
            x = seed;
        }

        void goAllWays() {
            drawn = false;
            made = 0;
        }

        void begin() {
            asked = 0;
            parts = 1;
        }

        boolean isStop(int percent) {
            if (drawn) {
                x = 1103515245 * x + 12345;
                return (x >>> 16) % 100 < percent;
            }
            if (asked >= CARS_MOST) {
                return false;
            }
            if (asked == made) {
                path[made] = true;
                made++;
            }
            boolean stop = path[asked];
            asked++;
            parts *= stop ? percent : 100 - percent;
            return stop;
        }

        /** The latest that stopped goes on in the next way; false: there is none. */
        boolean turn() {
            while (made > 0 && !path[made - 1]) {
                made--;
            }
            if (made == 0) {
                return false;
            }
            path[made - 1] = false;
            return true;
        }
    }

    /** The TICKS of one way it may go. */
    private static final class Road {
        final Choices choices = new Choices();
        Scene scene;
        private final Law law;
        private int skipped = NONE;
        final int[] dist = new int[CARS_MOST];
        final int[] pace = new int[CARS_MOST];
        final int[] mind = new int[CARS_MOST];
        final boolean[] held = new boolean[CARS_MOST];
        private final int[] order = new int[CARS_MOST];
        private final int[] wall = new int[LANES_MOST];
        int past;
        boolean inLane;
        private int ticksIn;
        int stood;
        int ticks;
        int end;
        int harm;
        int by;
        private int hit;

        Road(Scene told, Law byLaw) {
            scene = told;
            law = byLaw;
        }

        /** withoutLine: the line of THE LAW that does not count, or NONE. */
        void begin(Scene told, int withoutLine) {
            scene = told;
            skipped = withoutLine;
            boolean hump = told.hasTrait(W_HUMP);
            for (int c = 0; c < told.cars; c++) {
                dist[c] = told.dist[c];
                pace[c] = hump && told.pace[c] > HUMP_PACE ? HUMP_PACE : told.pace[c];
                mind[c] = UNDECIDED;
                held[c] = false;
                order[c] = c;
            }
            past = 0;
            inLane = false;
            ticksIn = 0;
            stood = 0;
            ticks = 0;
            end = 0;
            harm = 0;
            by = NONE;
            choices.begin();
        }

        void tick() {
            for (int c = 0; c < scene.cars; c++) {
                if (mind[c] == UNDECIDED && dist[c] > 0 && dist[c] <= scene.sight) {
                    decide(c);
                }
            }
            if (!inLane && (past == 0 && stood >= scene.waits || isFree(past))) {
                inLane = true;
                ticksIn = 0;
            }
            moveCars();
            goOver();
            if (past == 0 && !inLane) {
                stood++;
            }
            ticks++;
            if (end == 0 && ticks >= TICKS_MOST) {
                end = LATE;
            }
        }

        private void decide(int c) {
            int percent = percentFor(c);
            boolean stop = percent > 0 && hasRoom(c) && (percent >= 100 || choices.isStop(percent));
            mind[c] = stop ? STOPS : GOES_ON;
        }

        boolean hasRoom(int c) {
            return pace[c] * (pace[c] - 1) / 2 <= dist[c] - scene.line;
        }

        int percentFor(int c) {
            int i = 0;
            for (int k = 0; k < law.lines; k++) {
                // The steps' values stand in bits: nine TESTS within one another need fewer than 32.
                int values = 0;
                for (; i < law.stepsEnd[k]; i++) {
                    int word = law.steps[i] / STEP;
                    if (word >= W_NOT) {
                        values = joined(values, word);
                    } else {
                        values = values << 1 | (isFact(word, law.steps[i] % STEP, c) ? 1 : 0);
                    }
                }
                if (k != skipped && (values & 1) != 0) {
                    return law.percent[k];
                }
            }
            return 0;
        }

        private static int joined(int values, int word) {
            if (word == W_NOT) {
                return values ^ 1;
            }
            int rest = values >> 1;
            if (word == W_AND) {
                return (values & 1) != 0 ? rest : rest & ~1;
            }
            return rest | values & 1;
        }

        private boolean isFact(int word, int n, int c) {
            switch (word) {
                case W_NEAR:
                    return dist[c] < n;
                case W_FAST:
                    return pace[c] >= n;
                case W_LANE:
                    return scene.lane[c] == n;
                case W_KIND:
                    return scene.kind[c] == n;
                case W_AHEAD:
                    return isStoppingAhead(c);
                case W_BESIDE:
                    return isStoppingBeside(c);
                case W_PASSED:
                    return isGoingElsewhere(c);
                case W_IN:
                    return past > 0 || inLane;
                default:
                    return scene.hasTrait(word);
            }
        }

        private boolean isStoppingAhead(int c) {
            for (int d = 0; d < scene.cars; d++) {
                if (mind[d] == STOPS && scene.lane[d] == scene.lane[c] && dist[d] > 0 && dist[d] < dist[c]) {
                    return true;
                }
            }
            return false;
        }

        private boolean isStoppingBeside(int c) {
            for (int d = 0; d < scene.cars; d++) {
                int apart = scene.lane[d] - scene.lane[c];
                if (mind[d] == STOPS && (apart == 1 || apart == -1) && dist[d] > 0) {
                    return true;
                }
            }
            return false;
        }

        private boolean isGoingElsewhere(int c) {
            for (int d = 0; d < scene.cars; d++) {
                if (mind[d] == GOES_ON && scene.lane[d] != scene.lane[c] && dist[d] > 0 && dist[d] < dist[c]) {
                    return true;
                }
            }
            return false;
        }

        private boolean isFree(int lane) {
            for (int c = 0; c < scene.cars; c++) {
                boolean counts = scene.lane[c] == lane && dist[c] > 0 && mind[c] != STOPS && !held[c];
                // It needs more than GAP TICKS where it is farther than GAP times PACE.
                if (counts && dist[c] <= scene.gap * pace[c] && !isHidden(c)) {
                    return false;
                }
            }
            return true;
        }

        private boolean isHidden(int c) {
            for (int d = 0; d < scene.cars; d++) {
                boolean stands = mind[d] == STOPS && pace[d] == 0 && scene.kind[d] > 0;
                if (stands && scene.lane[d] == scene.lane[c] - 1
                        && dist[d] >= 1 && dist[d] <= 3 && dist[d] < dist[c]) {
                    return true;
                }
            }
            return false;
        }

        private void moveCars() {
            sortByDist();
            Arrays.fill(wall, 0);
            hit = NONE;
            for (int i = 0; i < scene.cars; i++) {
                int c = order[i];
                if (dist[c] > 0) {
                    moveCar(c);
                }
            }
        }

        private void moveCar(int c) {
            int lane = scene.lane[c];
            held[c] = false;
            if (mind[c] == STOPS) {
                pace[c] = Math.max(pace[c] - 1, 0);
                dist[c] -= pace[c];
            } else {
                int to = dist[c] - pace[c];
                held[c] = wall[lane] > 0 && wall[lane] + 2 > to;
                dist[c] = held[c] ? Math.min(dist[c], wall[lane] + 2) : to;
            }
            if (dist[c] > 0 && (mind[c] == STOPS || held[c])) {
                wall[lane] = Math.max(wall[lane], dist[c]);
            }
            if (dist[c] <= 0 && inLane && lane == past && (hit == NONE || c < hit)) {
                hit = c;
            }
        }

        private void sortByDist() {
            for (int i = 1; i < scene.cars; i++) {
                int c = order[i];
                int j = i;
                while (j > 0 && isBehind(order[j - 1], c)) {
                    order[j] = order[j - 1];
                    j--;
                }
                order[j] = c;
            }
        }

        private boolean isBehind(int c, int d) {
            return dist[c] > dist[d] || dist[c] == dist[d] && c > d;
        }

        private void goOver() {
            if (!inLane) {
                return;
            }
            boolean old = scene.hasTrait(W_OLD);
            if (hit != NONE) {
                end = KNOCKED;
                by = hit;
                harm = pace[hit] * pace[hit] * (old ? 2 : 1);
                return;
            }
            ticksIn++;
            if (ticksIn >= (old ? 2 : 1)) {
                inLane = false;
                past++;
                end = past >= scene.lanes ? OVER : 0;
            }
        }

        int stopping() {
            int bits = 0;
            for (int c = 0; c < scene.cars; c++) {
                bits |= mind[c] == STOPS ? 1 << c : 0;
            }
            return bits;
        }

        /** NONE if she is in no lane, or no car is to come there. */
        int nearestInHerLane() {
            int least = NONE;
            for (int c = 0; c < scene.cars && inLane; c++) {
                if (scene.lane[c] == past && dist[c] > 0 && (least == NONE || dist[c] < least)) {
                    least = dist[c];
                }
            }
            return least;
        }
    }

    /** ODDS: the sums over all that drivers may decide. */
    private static final class Tree {
        long all;
        long over;
        long knocked;
        long late;
        long ticks;
        long harm;
        /** The most TICKS that she stood at the kerb. */
        int longest;
        final long[] knockedBy = new long[CARS_MOST];
        final long[] stopping = new long[CARS_MOST];

        void weigh(Road road, Scene scene, int withoutLine) {
            clear(scene.cars);
            road.choices.goAllWays();
            boolean more = true;
            for (int leaf = 0; more && leaf < LEAVES_MOST; leaf++) {
                road.begin(scene, withoutLine);
                for (int t = 0; t < TICKS_MOST && road.end == 0; t++) {
                    road.tick();
                }
                add(road);
                more = road.choices.turn();
            }
        }

        private void clear(int cars) {
            all = 1;
            for (int c = 0; c < cars; c++) {
                all *= 100;
            }
            over = 0;
            knocked = 0;
            late = 0;
            ticks = 0;
            harm = 0;
            longest = 0;
            Arrays.fill(knockedBy, 0);
            Arrays.fill(stopping, 0);
        }

        private void add(Road road) {
            long parts = road.choices.parts;
            for (int c = road.choices.asked; c < road.scene.cars; c++) {
                parts *= 100;
            }
            if (road.end == OVER) {
                over += parts;
            } else if (road.end == KNOCKED) {
                knocked += parts;
            } else {
                late += parts;
            }
            ticks += parts * road.ticks;
            harm += parts * road.harm;
            longest = Math.max(longest, road.stood);
            for (int c = 0; c < road.scene.cars; c++) {
                knockedBy[c] += road.by == c ? parts : 0;
                stopping[c] += road.mind[c] == STOPS ? parts : 0;
            }
        }
    }

    /** SPENT for each coin up to the one known. */
    private static final class Spending {
        int known = NONE;
        /** What is left of all times COINS, and what it costs: the less of these is the better. */
        final long[] least = new long[COINS];
        /** Four bits a PLACE, PLACE 0 the highest: of like ones the less is the better. */
        final long[] chosen = new long[COINS];
        private final int[] worth = new int[MEASURE_SETS];
        private int worthSize;
        private final int[] costs = new int[MEASURE_SETS];
        private final long[] lefts = new long[MEASURE_SETS];

        int shiftOf(Places places, int p) {
            return 4 * (places.size - 1 - p);
        }

        void weighUpTo(Places places, int coin) {
            if (coin <= known) {
                return;
            }
            Arrays.fill(least, 0);
            Arrays.fill(chosen, 0);
            for (int p = places.size - 1; p >= 0; p--) {
                findWorth(places, p);
                // Downwards, as the lesser coins must still be without this PLACE.
                for (int c = coin; c >= 0; c--) {
                    choose(c, shiftOf(places, p));
                }
            }
            known = coin;
        }

        private void choose(int coin, int shift) {
            // The empty set costs nothing, so it is always worth its place and comes first.
            long fewest = lefts[0] + least[coin];
            long found = chosen[coin];
            for (int i = 1; i < worthSize; i++) {
                int set = worth[i];
                int rest = coin - costs[set];
                if (rest >= 0 && lefts[set] + least[rest] < fewest) {
                    fewest = lefts[set] + least[rest];
                    found = (long) set << shift | chosen[rest];
                }
            }
            least[coin] = fewest;
            chosen[coin] = found;
        }

        /** The sets that no other one beats at this PLACE: there are but a few. */
        private void findWorth(Places places, int p) {
            for (int set = 0; set < MEASURE_SETS; set++) {
                costs[set] = places.costOf(set);
                lefts[set] = (long) places.leftAt(p, set) * COINS + costs[set];
            }
            worthSize = 0;
            for (int set = 0; set < MEASURE_SETS; set++) {
                if (!isBeaten(set)) {
                    worth[worthSize] = set;
                    worthSize++;
                }
            }
        }

        private boolean isBeaten(int set) {
            for (int other = 0; other < MEASURE_SETS; other++) {
                boolean better = lefts[other] < lefts[set] || lefts[other] == lefts[set] && other < set;
                if (better && costs[other] <= costs[set]) {
                    return true;
                }
            }
            return false;
        }
    }

    /** A ROW OF NUMBERS; as COUNTS, those below 0 are missing. */
    private static final class Row {
        boolean there;
        int sort;
        int size;
        final long[] values = new long[ROW_MOST];

        long cut(long v) {
            switch (sort) {
                case 0:
                    return (byte) v;
                case 1:
                    return (short) v;
                case 2:
                    return (int) v;
                default:
                    return v;
            }
        }

        boolean isWithin(long most) {
            for (int i = 0; i < size; i++) {
                if (values[i] < 0 || values[i] > most) {
                    return false;
                }
            }
            return true;
        }

        boolean isBeyondCounts() {
            for (int i = 0; i < size; i++) {
                if (values[i] > COUNTED_MOST) {
                    return true;
                }
            }
            return false;
        }

        boolean hasCounts() {
            return there && !isBeyondCounts() && size > 0 && countAt(0) != NONE;
        }

        /** FILLED; NONE if none is there. */
        int countAt(int i) {
            int ahead = i;
            while (ahead >= 0 && values[ahead] < 0) {
                ahead--;
            }
            int behind = i;
            while (behind < size && values[behind] < 0) {
                behind++;
            }
            if (ahead < 0 && behind >= size) {
                return NONE;
            }
            if (ahead < 0) {
                return (int) values[behind];
            }
            if (behind >= size) {
                return (int) values[ahead];
            }
            return (int) ((values[ahead] + values[behind]) / 2);
        }

        /** The sum of differences where both have a place, this row put further by so many. */
        long apartFrom(Row other, int by) {
            long sum = 0;
            for (int i = 0; i < size; i++) {
                if (i + by >= 0 && i + by < other.size) {
                    sum += Math.abs(countAt(i) - other.countAt(i + by));
                }
            }
            return sum;
        }

        long sharedWith(Row other, int by) {
            long both = 0;
            for (int i = 0; i < size; i++) {
                both += i + by >= 0 && i + by < other.size ? 1 : 0;
            }
            return both;
        }
    }
}
