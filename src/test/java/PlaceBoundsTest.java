/** PLACES and MEASURES of ==== 3 and promises 24 to 32, a check for each bound that they name. */
public final class PlaceBoundsTest {
    private static final int[] FAR = {Integer.MIN_VALUE, Integer.MAX_VALUE};

    public static void main(String[] args) {
        noPlaces();
        twelvePlaces();
        whoCross();
        whoAreHurt();
        yearBehind();
        atBounds();
        rateInLeastTerms();
        partedBounds();
        worstOfNone();
        worstOfAll();
        likeOnes();
        matches();
        falls();
        rankedBounds();
        measureBounds();
        measuresAtFirst();
        leftDownwards();
        coinBounds();
        likeSpendings();
        onceAtMost();
        allSixteen();
        spentOfTwelve();
        Check.end();
    }

    private static void due(String call, long got, long want) {
        Check.due(call, got, want);
    }

    private static FootOut hurt(int... hurt) {
        FootOut x = new FootOut();
        for (int h : hurt) {
            x.place(true, 300, 300, Math.min(h, 300), Math.max(0, h - 300));
        }
        return x;
    }

    /** The empty list of PLACES. */
    private static void noPlaces() {
        FootOut x = new FootOut();
        due("PLACES", x.count(8), 0);
        due("rate above", x.rate(true, 0), 0);
        due("rate below", x.rate(true, 1), 1);
        due("bare above", x.rate(false, 0), 0);
        due("bare below", x.rate(false, 1), 1);
        due("parted", x.parted(), 0);
        for (int what = 0; what < 4; what++) {
            due("worst(0, " + what + ")", x.worst(0, what), 0);
            due("worst(1, " + what + ")", x.worst(1, what), -1000000);
        }
        due("ranked(0)", x.ranked(0), -1);
        due("spent(0, -1)", x.spent(0, -1), 0);
        due("spent(999, 20)", x.spent(999, 20), 0);
        due("spent(0, 0)", x.spent(0, 0), -2);
        due("behind(0, 0)", x.behind(0, 0), -2);
        due("at(0, 0)", x.at(0, 0), -2);
        due("status(0)", x.status(0), 7);
    }

    /** PLACES 0 to 11 as they come. */
    private static void twelvePlaces() {
        FootOut x = new FootOut();
        for (int p = 0; p < 12; p++) {
            due("as they come", x.place(p % 2 == 0, p, 10 * p, p, p), p);
            due("so many", x.count(8), p + 1);
        }
        due("a 13th", x.place(true, 1, 1, 1, 1), -5);
        due("a 13th that can't be", x.place(true, -1, 1, 1, 1), -5);
        due("they stay 12", x.count(8), 12);
        due("status(2)", x.status(2), 2);
        due("status(1)", x.status(1), 0);
        for (int p = 0; p < 12; p++) {
            int[] due = {1 - p % 2, p, 10 * p, p, p, 0};
            for (int what = 0; what < 6; what++) {
                due("at(" + p + ", " + what + ")", x.at(p, what), due[what]);
            }
        }
    }

    private static void notTaken(int old, int others, int hurtOld, int hurtOthers) {
        FootOut x = new FootOut();
        due("place(" + old + ", " + others + ", " + hurtOld + ", " + hurtOthers + ")", x.place(false, old, others, hurtOld, hurtOthers), -3);
        due("none is made", x.count(8), 0);
        due("status(1)", x.status(1), 1);
    }

    /** Old ones and others who cross: 0 to 300 each. */
    private static void whoCross() {
        for (int n : new int[] {0, 1, 299, 300}) {
            FootOut x = new FootOut();
            due("old " + n, x.place(true, n, 0, 0, 0), 0);
            due("others " + n, x.place(true, 0, n, 0, 0), 1);
            due("they are so many", x.at(0, 1), n);
            due("and so many", x.at(1, 2), n);
        }
        for (int n : new int[] {Integer.MIN_VALUE, -1, 301, Integer.MAX_VALUE}) {
            notTaken(n, 0, 0, 0);
            notTaken(0, n, 0, 0);
        }
    }

    /** No more are hurt than cross. */
    private static void whoAreHurt() {
        for (int n : new int[] {0, 1, 150, 300}) {
            FootOut x = new FootOut();
            due("all old ones", x.place(true, n, 0, n, 0), 0);
            due("all others", x.place(true, 0, n, 0, n), 1);
            due("hurt old ones", x.at(0, 3), n);
            due("hurt others", x.at(1, 4), n);
            notTaken(n, 300, n + 1, 0);
            notTaken(300, n, 0, n + 1);
        }
        for (int n : new int[] {Integer.MIN_VALUE, -1, 301, Integer.MAX_VALUE}) {
            notTaken(300, 300, n, 0);
            notTaken(300, 300, 0, n);
        }
    }

    /** 0 to 600 the year behind, 0 at first; more than are hurt in all as well. */
    private static void yearBehind() {
        FootOut x = hurt(5, 7);
        due("0 at first", x.behind(0, 600), 0);
        due("600", x.behind(0, 599), 600);
        due("599", x.behind(0, 1), 599);
        due("1", x.behind(0, 0), 1);
        due("0", x.behind(0, 9), 0);
        for (int n : new int[] {Integer.MIN_VALUE, -1, 601, Integer.MAX_VALUE}) {
            due("behind(0, " + n + ")", x.behind(0, n), -3);
            due("behind(2, " + n + "): the PLACE first", x.behind(2, n), -2);
        }
        for (int p : new int[] {Integer.MIN_VALUE, -1, 2, 12, Integer.MAX_VALUE}) {
            due("behind(" + p + ", 1)", x.behind(p, 1), -2);
        }
        due("it stays", x.at(0, 5), 9);
        due("and the other's", x.at(1, 5), 0);
        due("status(1)", x.status(1), 4);
        due("status(0)", x.status(0), 9);
    }

    private static void atBounds() {
        FootOut x = hurt(5);
        for (int what : new int[] {Integer.MIN_VALUE, -1, 6, Integer.MAX_VALUE}) {
            due("at(0, " + what + ")", x.at(0, what), -2);
        }
        for (int p : new int[] {Integer.MIN_VALUE, -1, 1, Integer.MAX_VALUE}) {
            due("at(" + p + ", 0)", x.at(p, 0), -2);
        }
        due("status(0)", x.status(0), 8);
    }

    /** RATE in least terms, 0 / 1 without who crosses. */
    private static void rateInLeastTerms() {
        FootOut x = new FootOut();
        x.place(true, 0, 0, 0, 0);
        due("nobody crosses: above", x.rate(true, 0), 0);
        due("nobody crosses: below", x.rate(true, 1), 1);
        x.place(false, 300, 300, 0, 0);
        due("nobody is hurt: above", x.rate(false, 0), 0);
        due("nobody is hurt: below", x.rate(false, 1), 1);
        x.place(true, 12, 24, 12, 6);
        due("18 of 36", x.rate(true, 0), 1);
        due("by 2", x.rate(true, 1), 2);
        x.place(true, 1, 0, 1, 0);
        due("19 of 37", x.rate(true, 0), 19);
        due("by 37", x.rate(true, 1), 37);
        due("bare ones have no part in it", x.rate(false, 1), 1);
        for (int what : new int[] {Integer.MIN_VALUE, -1, 2, Integer.MAX_VALUE}) {
            due("rate(true, " + what + ")", x.rate(true, what), -2);
            due("rate(false, " + what + ")", x.rate(false, what), -2);
        }
        due("status(0)", x.status(0), 8);
        FootOut y = new FootOut();
        for (int p = 0; p < 12; p++) {
            y.place(true, 300, 300, 300, 299);
        }
        due("the greatest: above", y.rate(true, 0), 599);
        due("the greatest: below", y.rate(true, 1), 600);
        y = new FootOut();
        for (int p = 0; p < 12; p++) {
            y.place(false, 300, 300, 300, p == 0 ? 299 : 300);
        }
        due("7199 of 7200", y.rate(false, 0), 7199);
        due("by 7200", y.rate(false, 1), 7200);
        due("all hurt", hurt(600).rate(true, 0), 1);
        due("by 1", hurt(600).rate(true, 1), 1);
    }

    private static int partedBy(int[]... places) {
        FootOut x = new FootOut();
        for (int[] p : places) {
            x.place(p[0] == 1, p[1], p[2], p[3], p[4]);
        }
        return x.parted();
    }

    /** A RATE without who crosses is 0; the greatest sums, one apart. */
    private static void partedBounds() {
        due("painted ones alone", partedBy(new int[] {1, 5, 5, 1, 0}), 1);
        due("bare ones alone", partedBy(new int[] {0, 5, 5, 0, 1}), 2);
        due("nobody hurt", partedBy(new int[] {0, 5, 5, 0, 0}, new int[] {1, 5, 5, 0, 0}), 0);
        due("nobody crosses", partedBy(new int[] {0, 0, 0, 0, 0}, new int[] {1, 0, 0, 0, 0}), 0);
        due("painted ones without old ones", partedBy(new int[] {1, 0, 10, 0, 1}, new int[] {0, 10, 10, 0, 1}), 0);
        due("bare ones have these too", partedBy(new int[] {1, 0, 10, 0, 1}, new int[] {0, 10, 10, 1, 1}), 2);
        due("painted ones without others", partedBy(new int[] {1, 10, 0, 2, 0}, new int[] {0, 10, 10, 1, 0}), 1);
        int[][] most = new int[12][];
        for (int p = 0; p < 12; p++) {
            most[p] = new int[] {p % 2, 300, 300, 300, 300};
        }
        due("all hurt at all", partedBy(most), 0);
        most[0][3] = 299;
        due("but one at a bare one", partedBy(most), 1);
        most[1][4] = 298;
        due("but two at a painted one", partedBy(most), 2);
        // One side of all: the sums grow with who crosses at the other one.
        int[][] one = new int[12][];
        for (int p = 0; p < 12; p++) {
            one[p] = new int[] {p == 0 ? 0 : 1, 300, 299, 300, p == 0 ? 299 : 298};
        }
        due("one bare one", partedBy(one), 2);
    }

    /** WORST of 0. */
    private static void worstOfNone() {
        FootOut x = hurt(5, 6);
        for (int what = 0; what < 4; what++) {
            due("worst(0, " + what + ")", x.worst(0, what), 0);
        }
        due("what 4", x.worst(0, 4), -1000000);
        due("what -1", x.worst(0, -1), -1000000);
        due("k -1", x.worst(-1, 0), -1000000);
        for (int far : FAR) {
            due("k " + far, x.worst(far, 0), -1000000);
            due("what " + far, x.worst(0, far), -1000000);
        }
        due("counted as -2", x.status(0), 7);
    }

    /** WORST of as many as there are; their matches only of as many others. */
    private static void worstOfAll() {
        for (int n = 1; n <= 12; n++) {
            int[] hurt = new int[n];
            for (int p = 0; p < n; p++) {
                hurt[p] = 600 - p;
            }
            FootOut x = hurt(hurt);
            int refused = 0;
            for (int k = 0; k <= n; k++) {
                due("the worst " + k + " of " + n, x.worst(k, 0), (1 << k) - 1);
                Check.isTrue("their FALL", x.worst(k, 1) >= 0);
                boolean enough = n - k >= k;
                refused += enough ? 0 : 2;
                due("their matches", x.worst(k, 3), enough ? (1 << 2 * k) - (1 << k) : -1000000);
                Check.isTrue("their FALL", x.worst(k, 2) >= 0 == enough);
                due("status(0)", x.status(0), refused);
            }
            due("one more", x.worst(n + 1, 0), -1000000);
            due("and its FALL", x.worst(n + 1, 1), -1000000);
        }
    }

    /** Of like ones the least numbers. */
    private static void likeOnes() {
        FootOut x = hurt(4, 4, 4, 4, 4, 4);
        int[] worst = {0, 1, 3, 7, 15, 31, 63};
        int[] matches = {0, 2, 12, 56};
        for (int k = 0; k <= 6; k++) {
            due("worst " + k, x.worst(k, 0), worst[k]);
            if (k <= 3) {
                due("matches " + k, x.worst(k, 3), matches[k]);
            }
        }
        for (int k = 0; k < 6; k++) {
            due("ranked " + k, x.ranked(k), k);
        }
        due("0 is hurt: the least numbers", hurt(0, 0, 0).worst(2, 0), 3);
    }

    /** To each by their numbers, the one that isn't taken yet whose hurt differs least. */
    private static void matches() {
        due("one below and one above: the least number", hurt(10, 8, 10, 9).worst(1, 3), 4);
        due("as far below as the other", hurt(7, 20, 7).worst(1, 3), 1);
        due("more is nearer than less", hurt(9, 3, 9, 4).worst(2, 3), 8 | 2);
        // By numbers: 0 has 20 and takes 18 (2), so that 1 with 19 is left with 5 (3).
        due("who comes first takes it", hurt(20, 19, 18, 5).worst(2, 3), 12);
        FootOut x = hurt(20, 19, 18, 5);
        x.behind(2, 3);
        x.behind(3, 50);
        due("the FALL of both", x.worst(2, 2), 18 - 3 + 5 - 50);
        due("600 and 0", hurt(0, 600).worst(1, 3), 1);
    }

    /** FALL: hurt in all, less the year behind. */
    private static void falls() {
        FootOut x = hurt(600, 0);
        x.behind(0, 600);
        x.behind(1, 600);
        due("as many", x.worst(1, 1), 0);
        due("the least", x.worst(1, 2), -600);
        x.behind(0, 0);
        due("the greatest", x.worst(1, 1), 600);
        due("of both", x.worst(2, 1), 0);
        FootOut y = hurt(0, 0, 0, 0, 0, 0, 0, 0, 0, 0, 0, 0);
        for (int p = 0; p < 12; p++) {
            y.behind(p, 600);
        }
        due("of twelve", y.worst(12, 1), -7200);
        due("of the matches of six", y.worst(6, 2), -3600);
    }

    private static void rankedBounds() {
        FootOut x = new FootOut();
        x.place(true, 0, 0, 0, 0);
        x.place(true, 300, 300, 1, 0);
        x.place(true, 300, 299, 1, 0);
        x.place(true, 1, 0, 1, 0);
        x.place(true, 300, 300, 300, 300);
        x.place(true, 5, 5, 0, 0);
        int[] due = {3, 4, 2, 1, 0, 5};
        for (int k = 0; k < 6; k++) {
            due("ranked(" + k + ")", x.ranked(k), due[k]);
        }
        due("ranked(6)", x.ranked(6), -1);
        due("ranked(-1)", x.ranked(-1), -1);
        for (int far : FAR) {
            due("ranked(" + far + ")", x.ranked(far), -1);
        }
        due("NONE is no refusal", x.status(0) + x.status(1), 0);
        FootOut y = hurt(12, 11, 10, 9, 8, 7, 6, 5, 4, 3, 2, 1);
        FootOut z = hurt(1, 2, 3, 4, 5, 6, 7, 8, 9, 10, 11, 12);
        for (int k = 0; k < 12; k++) {
            due("ranked(" + k + ") of twelve", y.ranked(k), k);
            due("ranked(" + k + ") of twelve more and more", z.ranked(k), 11 - k);
        }
        due("ranked(12)", y.ranked(12), -1);
    }

    /** COST 1 to 99, leaves 0 to 100, MEASURES 0 to 3. */
    private static void measureBounds() {
        FootOut x = hurt(1);
        for (int m = 0; m < 4; m++) {
            for (int cost : new int[] {1, 2, 98, 99}) {
                due("COST " + cost, x.measure(m, cost, 0), 0);
                due("one coin less", x.spent(cost - 1, 0), 0);
                due("enough", x.spent(cost, 0), 1 << m);
                due("it costs", x.spent(999, 20), cost);
            }
            for (int left : new int[] {0, 1, 99, 100}) {
                due("leaves " + left, x.measure(m, 1, left), 0);
                due("so much is left", x.spent(1, -1), 100 * left);
            }
            for (int bad : new int[] {Integer.MIN_VALUE, -1, 0, 100, Integer.MAX_VALUE}) {
                due("COST " + bad, x.measure(m, bad, 0), -3);
            }
            for (int bad : new int[] {Integer.MIN_VALUE, -1, 101, Integer.MAX_VALUE}) {
                due("leaves " + bad, x.measure(m, 1, bad), -3);
            }
            due("it leaves 100 still", x.spent(999, -1), 10000);
        }
        for (int m : new int[] {Integer.MIN_VALUE, -1, 4, Integer.MAX_VALUE}) {
            due("measure(" + m + ")", x.measure(m, 1, 0), -2);
            due("which is told first", x.measure(m, 0, 0), -2);
        }
        due("status(1)", x.status(1), 36);
        due("status(0)", x.status(0), 8);
    }

    /** 1 and 100 at first: such a MEASURE is nowhere had. */
    private static void measuresAtFirst() {
        FootOut x = hurt(600);
        due("all is left", x.spent(999, -1), 6000000);
        due("no coin", x.spent(999, 20), 0);
        due("no bits", x.spent(999, 0), 0);
        x.measure(3, 1, 99);
        due("one helps", x.spent(999, 0), 8);
        due("for one coin", x.spent(999, 20), 1);
    }

    /** Times what it leaves, by 100, downwards each time, from the least number on. */
    private static void leftDownwards() {
        FootOut x = hurt(1);
        x.measure(0, 1, 33);
        x.measure(1, 1, 33);
        x.measure(2, 1, 33);
        x.measure(3, 1, 33);
        // 10000, 3300, 1089, 359.37, 118.47
        long[] due = {10000, 3300, 1089, 359, 118, 118};
        for (int coin = 0; coin < due.length; coin++) {
            due("for " + coin, x.spent(coin, -1), due[coin]);
            due("it costs", x.spent(coin, 20), Math.min(coin, 4));
            due("of like ones the least bits", x.spent(coin, 0), (1 << Math.min(coin, 4)) - 1);
        }
        // 10000, 3000, 900, 297, 98 (.01); from the greatest number on 3300, 1089, 326 (.7), 97 (.8).
        fourOf(x, 30, 30, 33, 33);
        due("from the least number on", x.spent(4, -1), 98);
        fourOf(x, 33, 33, 30, 30);
        due("the other way round", x.spent(4, -1), 97);
    }

    private static void fourOf(FootOut x, int... left) {
        for (int m = 0; m < 4; m++) {
            x.measure(m, 1, left[m]);
        }
    }

    /** Coin 0 to 999; what NONE, a PLACE, 20. */
    private static void coinBounds() {
        FootOut x = hurt(1, 2, 3);
        x.measure(0, 1, 0);
        for (int coin : new int[] {0, 1, 998, 999}) {
            long left = new long[] {60000, 30000, 0}[Math.min(coin, 2)];
            due("left for " + coin, x.spent(coin, -1), left);
            due("it costs", x.spent(coin, 20), Math.min(coin, 3));
        }
        for (int coin : new int[] {Integer.MIN_VALUE, -1, 1000, Integer.MAX_VALUE}) {
            due("coin " + coin, x.spent(coin, -1), -3);
            due("what told first", x.spent(coin, 3), -2);
        }
        for (int what : new int[] {Integer.MIN_VALUE, -2, 3, 11, 12, 19, 21, Integer.MAX_VALUE}) {
            due("what " + what, x.spent(5, what), -2);
        }
        due("the last PLACE", x.spent(5, 2), 1);
        due("status(1)", x.status(1), 4);
        due("status(0)", x.status(0), 12);
    }

    /** The least left; then the least COST; then the least bits at PLACE 0, then 1. */
    private static void likeSpendings() {
        FootOut x = hurt(1, 1, 1);
        x.measure(1, 5, 50);
        x.measure(2, 5, 50);
        int[][] due = {{4, 0, 0, 0}, {5, 0, 0, 2}, {10, 0, 2, 2}, {15, 2, 2, 2}, {19, 2, 2, 2}, {20, 2, 2, 6}, {30, 6, 6, 6}};
        for (int[] d : due) {
            for (int p = 0; p < 3; p++) {
                due("for " + d[0] + " at " + p, x.spent(d[0], p), d[1 + p]);
            }
        }
        x.measure(2, 4, 50);
        due("the one that costs less", x.spent(5, 2), 4);
        due("it costs", x.spent(5, 20), 4);
        // For 9 MEASURE 0 leaves nothing at one PLACE, for 5 MEASURE 1 half of it: the least left comes ahead of what it costs.
        x.measure(2, 5, 50);
        x.measure(0, 9, 0);
        due("the least left", x.spent(9, 2), 1);
        due("though it costs more", x.spent(9, 20), 9);
        // Where nobody is hurt no MEASURE is had, and what is had elsewhere stays.
        FootOut y = hurt(0, 3, 0);
        y.measure(0, 1, 50);
        due("at 0", y.spent(999, 0), 0);
        due("at 1", y.spent(999, 1), 1);
        due("at 2", y.spent(999, 2), 0);
        due("for one coin", y.spent(999, 20), 1);
    }

    /** Each MEASURE once at most at each PLACE. */
    private static void onceAtMost() {
        FootOut x = hurt(2);
        x.measure(0, 1, 50);
        due("not twice", x.spent(999, -1), 10000);
        due("it costs", x.spent(999, 20), 1);
        due("at another one too", hurtWithHalf(2, 2).spent(2, -1), 20000);
    }

    private static FootOut hurtWithHalf(int... hurt) {
        FootOut x = hurt(hurt);
        x.measure(0, 1, 50);
        return x;
    }

    /** Each of the sets of MEASURES may be the best one. */
    private static void allSixteen() {
        FootOut x = hurt(100);
        int[] left = {99, 97, 92, 80};
        for (int m = 0; m < 4; m++) {
            x.measure(m, 1 << m, left[m]);
        }
        for (int coin = 0; coin < 16; coin++) {
            due("for " + coin, x.spent(coin, 0), coin);
            due("it costs", x.spent(coin, 20), coin);
        }
        due("no more", x.spent(999, 20), 15);
    }

    /** The full list of PLACES with all MEASURES: 12 times 4. */
    private static void spentOfTwelve() {
        FootOut x = hurt(600, 600, 600, 600, 600, 600, 600, 600, 600, 600, 600, 600);
        for (int m = 0; m < 4; m++) {
            x.measure(m, 20, 50);
        }
        due("none", x.spent(19, -1), 72000000);
        due("all of them need 960", x.spent(959, -1), 12 * 375000 + 375000);
        due("959 leave one out", x.spent(959, 20), 940);
        due("at PLACE 0", x.spent(959, 0), 7);
        due("960", x.spent(960, -1), 12 * 375000);
        due("all of it", x.spent(960, 20), 960);
        due("more is not spent", x.spent(999, 20), 960);
        for (int p = 0; p < 12; p++) {
            due("at PLACE " + p, x.spent(999, p), 15);
            due("for 20", x.spent(20, p), p == 11 ? 1 : 0);
        }
        for (int m = 0; m < 4; m++) {
            x.measure(m, 99, 0);
        }
        due("ten of twelve", x.spent(999, -1), 12000000);
        due("990", x.spent(999, 20), 990);
        due("not at PLACE 0", x.spent(999, 0), 0);
        due("nor at 1", x.spent(999, 1), 0);
        due("but at 2", x.spent(999, 2), 1);
    }
}
