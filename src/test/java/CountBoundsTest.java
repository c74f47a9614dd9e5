/** FINE to COUNTS of ==== 3, ROWS OF NUMBERS and IMAGES of ==== 4 and promises 33 to 49, a check for each bound that they name. */
public final class CountBoundsTest {
    private static final int[] FAR = {Integer.MIN_VALUE, Integer.MAX_VALUE};

    public static void main(String[] args) {
        fineBounds();
        fineIsCut();
        untilBounds();
        lotBounds();
        shownBounds();
        shownOrMore();
        clumpsOfEmptyAndFull();
        clumpsBounds();
        clumpsNumbers();
        goesAtOnce();
        lampBounds();
        likeLamps();
        payBounds();
        restsBounds();
        moreOtherwise();
        thanksBounds();
        thanksDownwards();
        missingAndEmptyRows();
        filledBounds();
        filledMeans();
        slipRefused();
        slipBounds();
        likeSlips();
        numbersBounds();
        newNumbers();
        cutToItsSort();
        writeBounds();
        imagesBounds();
        imageHolds();
        imageHoldsNot();
        statusBounds();
        countBounds();
        Check.end();
    }

    private static void due(String call, long got, long want) {
        Check.due(call, got, want);
    }

    private static int[] beyond(int least, int most) {
        return new int[] {Integer.MIN_VALUE, least - 1, most + 1, Integer.MAX_VALUE};
    }

    /** now, base 0 to 1000, d 0 to 100, months 0 to 60. */
    private static void fineBounds() {
        FootOut x = new FootOut();
        due("all least", x.fine(0, 0, 0, 0), 0);
        due("now 1000", x.fine(1000, 0, 0, 60), 1000);
        due("base 1000", x.fine(0, 1000, 100, 60), 1000);
        due("0 months", x.fine(1000, 0, 100, 0), 1000);
        due("1 month", x.fine(1000, 0, 100, 1), 0);
        due("59 months", x.fine(0, 1000, 1, 59), x.fine(x.fine(0, 1000, 1, 58), 1000, 1, 1));
        due("60 months", x.fine(0, 1000, 1, 60), x.fine(x.fine(0, 1000, 1, 59), 1000, 1, 1));
        due("none refused", x.status(1), 0);
        for (int bad : beyond(0, 1000)) {
            due("now " + bad, x.fine(bad, 0, 0, 0), -3);
            due("base " + bad, x.fine(0, bad, 0, 0), -3);
        }
        for (int bad : beyond(0, 100)) {
            due("d " + bad, x.fine(0, 0, bad, 0), -3);
        }
        for (int bad : beyond(0, 60)) {
            due("months " + bad, x.fine(0, 0, 0, bad), -3);
        }
        due("status(1)", x.status(1), 16);
    }

    /** Cut to what is nearer to where it was, from above as from below. */
    private static void fineIsCut() {
        FootOut x = new FootOut();
        for (int away = 0; away <= 1000; away += 37) {
            for (int d : new int[] {0, 1, 33, 99, 100}) {
                due("from above, " + away + " away by " + d, x.fine(away, 0, d, 1), away - away * d / 100);
                due("from below, " + away + " away by " + d, x.fine(1000 - away, 1000, d, 1), 1000 - away + away * d / 100);
            }
        }
        due("99 of 100 away by 1", x.fine(99, 0, 1, 60), 99);
        due("100 away by 1", x.fine(100, 0, 1, 60), 99);
        due("the same upwards", x.fine(901, 1000, 1, 60), 901);
        due("and so", x.fine(900, 1000, 1, 60), 901);
        due("at base", x.fine(500, 500, 100, 60), 500);
    }

    /** Behind 0 to 999 months near by 0 to 1000. */
    private static void untilBounds() {
        FootOut x = new FootOut();
        due("at base already", x.until(7, 7, 0, 0), 0);
        due("1000 away, near 1000", x.until(0, 1000, 0, 1000), 0);
        due("1000 away, near 999", x.until(0, 1000, 0, 999), -1);
        due("1000 away from above, near 999", x.until(1000, 0, 0, 999), -1);
        due("1000 away, near 999, by 1", x.until(0, 1000, 1, 999), 1);
        due("all at once", x.until(1000, 0, 100, 0), 1);
        due("and less near", x.until(1000, 0, 100, 999), 1);
        due("cut, it never gets there", x.until(1000, 0, 1, 98), -1);
        int months = x.until(1000, 0, 1, 99);
        int stop = 1000;
        for (int m = 0; m < months; m++) {
            Check.isTrue("not near behind " + m, stop > 99);
            stop = x.fine(stop, 0, 1, 1);
        }
        due("near by as much", stop, 99);
        due("the most months that any FINE needs", months, 282);
        due("NONE is no refusal", x.status(1), 0);
        for (int bad : beyond(0, 1000)) {
            due("now " + bad, x.until(bad, 0, 0, 0), -3);
            due("base " + bad, x.until(0, bad, 0, 0), -3);
            due("near " + bad, x.until(0, 0, 0, bad), -3);
        }
        for (int bad : beyond(0, 100)) {
            due("d " + bad, x.until(0, 0, bad, 0), -3);
        }
        due("status(1)", x.status(1), 16);
    }

    /** p, q 0 to 1000; n 1 to 9999. */
    private static void lotBounds() {
        FootOut x = new FootOut();
        due("lot(0, 0)", x.lot(0, 0), 1);
        due("lot(1000, 1000)", x.lot(1000, 1000), 1);
        due("lot(0, 1000)", x.lot(0, 1000), 1);
        due("lot(1000, 0)", x.lot(1000, 0), 1);
        due("lot(1, 1)", x.lot(1, 1), -1);
        due("lot(999, 999)", x.lot(999, 999), -1);
        // 4 times 999 by 1.
        due("lot(0, 1)", x.lot(0, 1), 3996);
        due("lot(1, 0)", x.lot(1, 0), 3996);
        due("lot(1000, 999)", x.lot(1000, 999), 3996);
        // 4 times (3 997, and 2 998) is 19948 by 1; 4 times (4 996, and 2 998) is 23920 by 4.
        due("lot(3, 2)", x.lot(3, 2), -1);
        due("lot(4, 2)", x.lot(4, 2), 5980);
        due("just as much", 4L * (4 * 996 + 2 * 998), 5980L * 4);
        // The nearest to 9999 that there are.
        due("lot(436, 422)", x.lot(436, 422), 9997);
        due("lot(578, 564)", x.lot(578, 564), 9997);
        due("10003 are too many", x.lot(437, 423), -1);
        due("10003 are too many", x.lot(563, 577), -1);
        for (int p = 0; p <= 1000; p++) {
            for (int q = Math.max(0, p - 16); q <= p; q++) {
                long needs = 4L * (p * (1000 - p) + q * (1000 - q));
                long each = (long) (p - q) * (p - q);
                int lot = x.lot(p, q);
                boolean right = lot == -1 ? 9999 * each < needs : lot * each >= needs && (lot == 1 || (lot - 1) * each < needs);
                Check.isTrue("lot(" + p + ", " + q + ") " + lot, right);
            }
        }
        for (int bad : beyond(0, 1000)) {
            due("p " + bad, x.lot(bad, 0), -3);
            due("q " + bad, x.lot(0, bad), -3);
        }
        due("status(1)", x.status(1), 8);
    }

    /** n, m 1 to 300; a, b 0 up to these. */
    private static void shownBounds() {
        FootOut x = new FootOut();
        due("all least", x.shown(0, 1, 0, 1), 0);
        due("1 of 1, 0 of 1", x.shown(1, 1, 0, 1), 1);
        due("0 of 1, 1 of 1", x.shown(0, 1, 1, 1), 1);
        due("all greatest", x.shown(300, 300, 300, 300), 0);
        due("300 of 300, 0 of 300", x.shown(300, 300, 0, 300), 1);
        due("0 of 300, 300 of 300", x.shown(0, 300, 300, 300), 1);
        due("300 of 300, 0 of 1", x.shown(300, 300, 0, 1), 1);
        due("half and half", x.shown(150, 300, 150, 300), 0);
        due("like ones", x.shown(1, 2, 150, 300), 0);
        for (int bad : beyond(1, 300)) {
            due("n " + bad, x.shown(0, bad, 0, 1), -3);
            due("m " + bad, x.shown(0, 1, 0, bad), -3);
        }
        for (int n : new int[] {1, 7, 300}) {
            for (int bad : beyond(0, n)) {
                due("a " + bad + " of " + n, x.shown(bad, n, 0, 1), -3);
                due("b " + bad + " of " + n, x.shown(0, 1, bad, n), -3);
            }
        }
        due("status(1)", x.status(1), 8 + 24);
    }

    /** As much is shown; and never where a m is b n. */
    private static void shownOrMore() {
        FootOut x = new FootOut();
        // 8 8 16 is 1024, 4 times 2 2 64 is 1024.
        due("2 of 4, 0 of 4: as much", x.shown(2, 4, 0, 4), 1);
        due("0 of 4, 2 of 4", x.shown(0, 4, 2, 4), 1);
        due("1 of 4, 0 of 4: less", x.shown(1, 4, 0, 4), 0);
        due("none and none", x.shown(0, 300, 0, 1), 0);
        due("all and all", x.shown(300, 300, 1, 1), 0);
        int asMuch = 0;
        for (int n = 1; n <= 12; n++) {
            for (int m = 1; m <= 12; m++) {
                for (int a = 0; a <= n; a++) {
                    for (int b = 0; b <= m; b++) {
                        long apart = (long) (a * m - b * n) * (a * m - b * n) * n * m;
                        long spread = 4L * (a * (n - a) * m * m * m + b * (m - b) * n * n * n);
                        asMuch += apart == spread && apart != 0 ? 1 : 0;
                        due("shown(" + a + ", " + n + ", " + b + ", " + m + ")", x.shown(a, n, b, m), apart >= spread && apart != 0 ? 1 : 0);
                    }
                }
            }
        }
        Check.isTrue("as much comes", asMuch > 4);
    }

    private static long[] same(int n, long v) {
        long[] all = new long[n];
        java.util.Arrays.fill(all, v);
        return all;
    }

    /** The empty ROW OF NUMBERS and the full one. */
    private static void clumpsOfEmptyAndFull() {
        FootOut x = new FootOut();
        Check.fill(x, 0, 0);
        for (int what = 0; what < 3; what++) {
            due("empty, what " + what, x.clumps(0, 2, 1, what), 0);
        }
        Check.fill(x, 0, 1, same(40, 9999));
        due("40 wait", x.clumps(0, 998, 1, 0), 40 * (11 * 998 - 9999));
        due("all in one", x.clumps(0, 998, 1, 1), 40);
        due("one", x.clumps(0, 998, 1, 2), 1);
        for (int i = 0; i < 40; i++) {
            x.write(0, i, 2 * i);
        }
        due("none waits", x.clumps(0, 2, 1, 0), 0);
        due("each by itself", x.clumps(0, 2, 1, 1), 1);
        due("40", x.clumps(0, 2, 1, 2), 40);
        for (int i = 0; i < 40; i++) {
            x.write(0, i, 39 - i);
        }
        due("every second waits", x.clumps(0, 2, 1, 0), 20);
        due("with the next one", x.clumps(0, 2, 1, 1), 2);
        due("21", x.clumps(0, 2, 1, 2), 21);
    }

    /** ROW 0 to 3, what 0 to 2, c 2 to 999, g 1 to c less 1. */
    private static void clumpsBounds() {
        FootOut x = new FootOut();
        for (int row = 0; row < 4; row++) {
            Check.fill(x, row, 0, 1);
            due("ROW " + row, x.clumps(row, 2, 1, 0), 1);
        }
        due("c 999, g 998", x.clumps(0, 999, 998, 0), 0);
        due("c 999, g 1", x.clumps(0, 999, 1, 0), 998);
        due("c 998, g 997", x.clumps(0, 998, 997, 2), 1);
        for (int bad : beyond(2, 999)) {
            due("c " + bad, x.clumps(0, bad, 1, 0), -3);
        }
        for (int c : new int[] {2, 3, 999}) {
            for (int bad : beyond(1, c - 1)) {
                due("g " + bad + " of " + c, x.clumps(0, c, bad, 0), -3);
            }
        }
        due("status(1)", x.status(1), 16);
        for (int bad : beyond(0, 3)) {
            due("ROW " + bad, x.clumps(bad, 2, 1, 0), -2);
        }
        for (int bad : beyond(0, 2)) {
            due("what " + bad, x.clumps(0, 2, 1, bad), -2);
        }
        due("status(0)", x.status(0), 8);
    }

    /** Each number is 0 to 9999. */
    private static void clumpsNumbers() {
        for (int at = 0; at < 3; at++) {
            FootOut x = new FootOut();
            Check.fill(x, 2, 3, 0, 9999, 0);
            due("0 and 9999", x.clumps(2, 10, 5, 2), 2);
            for (long bad : new long[] {Long.MIN_VALUE, -1, 10000, 1L << 32, Long.MAX_VALUE}) {
                x.write(2, at, bad);
                due("number " + at + " is " + bad, x.clumps(2, 10, 5, 0), -3);
                x.write(2, at, 9999);
                due("number " + at + " is 9999", x.clumps(2, 10, 9, 1) > 0 ? 1 : 0, 1);
            }
            due("status(1)", x.status(1), 5);
        }
    }

    /** At once if t modulo c is below g, else at the next TICK that c divides. */
    private static void goesAtOnce() {
        FootOut x = new FootOut();
        int[] waits = {0, 0, 0, 0, 6, 5, 4, 3, 2, 1, 0};
        for (int t = 0; t <= 10; t++) {
            Check.fill(x, 0, 1, t);
            due("who comes at " + t, x.clumps(0, 10, 4, 0), waits[t]);
            due("goes alone", x.clumps(0, 10, 4, 1), 1);
            Check.fill(x, 0, 1, t, 10);
            due(t + " with who comes at 10", x.clumps(0, 10, 4, 1), t >= 4 ? 2 : 1);
            due("so many", x.clumps(0, 10, 4, 2), t >= 4 ? 1 : 2);
        }
    }

    /** cars, walkers 0 to 999. */
    private static void lampBounds() {
        FootOut x = new FootOut();
        int[][] due = {{0, 0, 20, 5}, {999, 0, 120, 5}, {0, 999, 120, 110}, {999, 999, 20, 10}, {1, 0, 120, 5}, {0, 1, 120, 110}};
        for (int[] d : due) {
            due("c of " + d[0] + ", " + d[1], x.lamp(d[0], d[1], 0), d[2]);
            due("g of " + d[0] + ", " + d[1], x.lamp(d[0], d[1], 1), d[3]);
        }
        for (int bad : beyond(0, 999)) {
            due("cars " + bad, x.lamp(bad, 0, 0), -3);
            due("walkers " + bad, x.lamp(0, bad, 1), -3);
            due("what is told first", x.lamp(bad, bad, 2), -2);
        }
        for (int bad : beyond(0, 1)) {
            due("what " + bad, x.lamp(0, 0, bad), -2);
        }
        due("status(1)", x.status(1), 8);
        due("status(0)", x.status(0), 8);
    }

    /** Of like ones the least c, then g. */
    private static void likeLamps() {
        FootOut x = new FootOut();
        for (int cars = 0; cars <= 12; cars++) {
            for (int walkers = 0; walkers <= 12; walkers++) {
                int cycle = 20;
                int green = 5;
                for (int c = 20; c <= 120; c++) {
                    for (int g = 5; g <= c - 10; g++) {
                        long waits = cars * g * g + walkers * (c - g) * (c - g);
                        long best = cars * green * green + walkers * (cycle - green) * (cycle - green);
                        if (waits * cycle < best * c) {
                            cycle = c;
                            green = g;
                        }
                    }
                }
                due("c of " + cars + ", " + walkers, x.lamp(cars, walkers, 0), cycle);
                due("g of " + cars + ", " + walkers, x.lamp(cars, walkers, 1), green);
            }
        }
    }

    /** who, doing 0, 1; n 0 to 4; v -99 to 99; 0 at first. */
    private static void payBounds() {
        FootOut x = new FootOut();
        for (int i = 0; i < 20; i++) {
            due("0 at first", x.pay(i / 10, i / 5 % 2, i % 5, i - 10), 0);
        }
        for (int i = 0; i < 20; i++) {
            due("what it was", x.pay(i / 10, i / 5 % 2, i % 5, -99), i - 10);
            due("-99", x.pay(i / 10, i / 5 % 2, i % 5, 99), -99);
            due("99", x.pay(i / 10, i / 5 % 2, i % 5, i), 99);
        }
        for (int bad : beyond(0, 1)) {
            due("who " + bad, x.pay(bad, 0, 0, 0), -1000);
            due("doing " + bad, x.pay(0, bad, 0, 0), -1000);
        }
        for (int bad : beyond(0, 4)) {
            due("n " + bad, x.pay(0, 0, bad, 0), -1000);
        }
        for (int bad : beyond(-99, 99)) {
            due("v " + bad, x.pay(0, 0, 0, bad), -1000);
        }
        due("counted as -2", x.status(0), 16);
        due("not as -3", x.status(1), 0);
        for (int i = 0; i < 20; i++) {
            due("it stays", x.pay(i / 10, i / 5 % 2, i % 5, 0), i);
        }
    }

    /** k, m 0 to 4. */
    private static void restsBounds() {
        FootOut x = new FootOut();
        for (int k = 0; k <= 4; k++) {
            for (int m = 0; m <= 4; m++) {
                due("all of " + k + ", " + m, x.rests(k, m, 0), (k + 1) * (m + 1));
                due("the first", x.rests(k, m, 1), 0);
            }
        }
        for (int bad : beyond(0, 4)) {
            due("k " + bad, x.rests(bad, 0, 0), -3);
            due("m " + bad, x.rests(0, bad, 1), -3);
            due("what is told first", x.rests(bad, bad, 2), -2);
        }
        for (int bad : beyond(0, 1)) {
            due("what " + bad, x.rests(0, 0, bad), -2);
        }
        due("status(1)", x.status(1), 8);
        due("status(0)", x.status(0), 8);
    }

    /** Nobody alone would have more otherwise: as much is rest; who isn't there doesn't mind. */
    private static void moreOtherwise() {
        FootOut x = new FootOut();
        for (int n = 0; n <= 4; n++) {
            x.pay(0, 1, n, 1);
        }
        due("all cars go", x.rests(4, 0, 1), 40);
        due("only so", x.rests(4, 0, 0), 1);
        due("whatever walkers do", x.rests(4, 4, 0), 5);
        due("no cars", x.rests(0, 4, 0), 5);
        for (int n = 0; n <= 4; n++) {
            x.pay(0, 0, n, 1);
        }
        due("as much", x.rests(4, 4, 0), 25);
        x.pay(0, 0, 4, 99);
        due("where four walkers go all cars stop", x.rests(4, 4, 0), 20 + 1);
        x.pay(1, 1, 0, -99);
        due("no walker goes where no car does", x.rests(4, 4, 0), 4 * 4 + 1);
        due("the first", x.rests(4, 4, 1), 0);
        x.pay(1, 0, 0, -98);
        x.pay(1, 1, 0, -97);
        due("all walkers go where no car does", x.rests(4, 4, 1), 4);
        // One walker of each PAY, by how many cars go: they wait where two do.
        FootOut y = new FootOut();
        y.pay(1, 0, 2, 1);
        due("where two go none steps out", y.rests(2, 1, 0), 2 + 2 + 1);
        y.pay(1, 1, 2, 2);
        due("where two go one does", y.rests(2, 1, 0), 2 + 2 + 1);
        y.pay(1, 1, 0, 1);
        y.pay(1, 1, 1, 1);
        y.pay(0, 1, 0, -1);
        y.pay(0, 0, 1, -1);
        due("i 2, j 1 alone", y.rests(2, 1, 1), 21);
    }

    /** s 0 to 1000000, t, a, b 0 to 100, n 0 to 99. */
    private static void thanksBounds() {
        FootOut x = new FootOut();
        due("all least", x.thanks(0, 0, 0, 0, 0), 0);
        due("0 cars", x.thanks(1000000, 0, 0, 0, 0), 1000000);
        due("1 car", x.thanks(1000000, 0, 0, 0, 1), 0);
        due("all thanked", x.thanks(1000000, 100, 100, 0, 99), 1000000);
        due("none thanked", x.thanks(1000000, 0, 0, 100, 99), 1000000);
        due("b 100 from none", x.thanks(0, 100, 0, 100, 1), 1000000);
        due("and back", x.thanks(0, 100, 0, 100, 2), 0);
        due("98 cars", x.thanks(0, 100, 0, 100, 98), 0);
        due("99 cars", x.thanks(0, 100, 0, 100, 99), 1000000);
        due("all greatest", x.thanks(1000000, 100, 100, 100, 99), 1000000);
        due("none refused", x.status(1), 0);
        for (int bad : beyond(0, 1000000)) {
            due("s " + bad, x.thanks(bad, 0, 0, 0, 0), -3);
        }
        for (int bad : beyond(0, 100)) {
            due("t " + bad, x.thanks(0, bad, 0, 0, 0), -3);
            due("a " + bad, x.thanks(0, 0, bad, 0, 0), -3);
            due("b " + bad, x.thanks(0, 0, 0, bad, 0), -3);
        }
        for (int bad : beyond(0, 99)) {
            due("n " + bad, x.thanks(0, 0, 0, 0, bad), -3);
        }
        due("status(1)", x.status(1), 20);
    }

    private static void thanksDownwards() {
        FootOut x = new FootOut();
        due("1 by 10000", x.thanks(1, 1, 1, 0, 1), 0);
        due("9900 by 10000", x.thanks(1, 99, 100, 0, 1), 0);
        due("10000 by 10000", x.thanks(1, 100, 100, 0, 1), 1);
        due("19800 by 10000", x.thanks(3, 66, 100, 0, 1), 1);
        // 9999990000, and 100, by 10000.
        due("both added, then by 10000", x.thanks(999999, 100, 100, 1, 1), 999999);
        // 1, and 9999999900, by 10000; 77, and 4999999950, by 10000.
        due("one more would be more", x.thanks(1, 1, 1, 100, 1), 999999);
        due("one less would be less", x.thanks(1, 1, 77, 50, 1), 500000);
        due("7 by 13 by 17 and 99999909 by 19", x.thanks(7, 13, 17, 19, 1), (7 * 13 * 17 + 99999909L * 19) / 10000);
        int s = 123456;
        for (int n = 0; n <= 99; n++) {
            due("behind " + n, x.thanks(123456, 61, 83, 29, n), s);
            long thanked = s * 61L;
            s = (int) ((thanked * 83 + (100000000 - thanked) * 29) / 10000);
        }
    }

    /** MISSING at first; of none -7. */
    private static void missingAndEmptyRows() {
        FootOut x = new FootOut();
        for (int row = 0; row < 4; row++) {
            due("filled of a MISSING one", x.filled(row, 0), -6);
            due("clumps", x.clumps(row, 2, 1, 0), -6);
            due("write", x.write(row, 0, 1), -6);
            due("slip", x.slip(row, row), -100);
            due("status(3)", x.status(3), 3 * row + 3);
            due("an empty one", x.numbers(row, row, 0), 0);
            due("filled", x.filled(row, 0), -7);
            due("write", x.write(row, 0, 1), -7);
            due("clumps", x.clumps(row, 2, 1, 0), 0);
            due("slip", x.slip(row, row), -100);
            due("status(4)", x.status(4), 2 * row + 2);
            due("status(0)", x.status(0), 2 * row + 2);
        }
    }

    /** Number 0 up to how many there are, less 1; none above 1000000. */
    private static void filledBounds() {
        FootOut x = new FootOut();
        Check.fill(x, 3, 3, same(40, 1000000));
        due("the first", x.filled(3, 0), 1000000);
        due("the last", x.filled(3, 39), 1000000);
        for (int bad : beyond(0, 39)) {
            due("number " + bad, x.filled(3, bad), -7);
        }
        for (int bad : beyond(0, 3)) {
            due("ROW " + bad, x.filled(bad, 0), -2);
        }
        due("none refused by -3", x.status(1), 0);
        for (int at : new int[] {0, 20, 39}) {
            for (long bad : new long[] {1000001, 1L << 32, Long.MAX_VALUE}) {
                x.write(3, at, bad);
                due("number " + at + " is " + bad, x.filled(3, 5), -3);
                due("no such number comes ahead", x.filled(3, 40), -7);
            }
            x.write(3, at, Long.MIN_VALUE);
            due("it is missing", x.filled(3, at), 1000000);
        }
        due("status(1)", x.status(1), 9);
        due("status(4)", x.status(4), 13);
        due("status(0)", x.status(0), 4);
    }

    /** Downwards; of the one that is there, if there is but one; 0 is there, -1 isn't. */
    private static void filledMeans() {
        FootOut x = new FootOut();
        Check.fill(x, 0, 2, -1, 0, -1, 1, -1, -7, 4, -1);
        int[] due = {0, 0, 0, 1, 2, 2, 4, 4};
        for (int i = 0; i < due.length; i++) {
            due("filled(0, " + i + ")", x.filled(0, i), due[i]);
        }
        Check.fill(x, 0, 2, -1, -1, 9, -1, -1);
        for (int i = 0; i < 5; i++) {
            due("but one", x.filled(0, i), 9);
        }
        Check.fill(x, 0, 2, 999999, -1, 1000000);
        due("the greatest, downwards", x.filled(0, 1), 999999);
        Check.fill(x, 0, 3, same(40, -1));
        due("none is there", x.filled(0, 0), -1);
        due("nor behind", x.filled(0, 39), -1);
        due("no refusal", x.status(0) + x.status(1) + x.status(4), 0);
        Check.fill(x, 0, 0, -1);
        due("one that is missing", x.filled(0, 0), -1);
        Check.fill(x, 0, 0, 0);
        due("one that is there", x.filled(0, 0), 0);
    }

    /** -100: no such ROW, MISSING, none there, one above 1000000; counted as -2. */
    private static void slipRefused() {
        FootOut x = new FootOut();
        Check.fill(x, 0, 3, 1, 2, 1000000);
        due("sound", x.slip(0, 0), 0);
        int refused = 0;
        for (int bad : beyond(0, 3)) {
            due("slip(" + bad + ", 0)", x.slip(bad, 0), -100);
            due("slip(0, " + bad + ")", x.slip(0, bad), -100);
            refused += 2;
        }
        due("a MISSING one", x.slip(1, 0), -100);
        due("to a MISSING one", x.slip(0, 1), -100);
        Check.fill(x, 1, 3);
        due("an empty one", x.slip(1, 0), -100);
        due("to an empty one", x.slip(0, 1), -100);
        Check.fill(x, 1, 3, -1, -1);
        due("none there", x.slip(1, 0), -100);
        due("to none there", x.slip(0, 1), -100);
        Check.fill(x, 1, 3, -1);
        due("the only one isn't there", x.slip(1, 0), -100);
        due("to one that isn't", x.slip(0, 1), -100);
        for (long above : new long[] {1000001, Long.MAX_VALUE}) {
            Check.fill(x, 1, 3, 1, above, 2);
            due("one above", x.slip(1, 0), -100);
            due("to one above", x.slip(0, 1), -100);
        }
        due("counted as -2", x.status(0), refused + 12);
        due("not as another", x.status(1) + x.status(3) + x.status(4), 0);
    }

    /** By -3 to 3 places, where both have a place. */
    private static void slipBounds() {
        FootOut x = new FootOut();
        for (int by = -5; by <= 5; by++) {
            long[] row = same(40, 0);
            long[] other = same(40, 0);
            for (int i = 0; i < 40; i++) {
                row[i] = (i + 7) * (i + 7) % 101;
                other[i] = i - by >= 0 && i - by < 40 ? (i - by + 7) * (i - by + 7) % 101 : 50;
            }
            Check.fill(x, 0, 1, row);
            Check.fill(x, 1, 1, other);
            if (Math.abs(by) <= 3) {
                due("put further by " + by, x.slip(0, 1), by);
            } else {
                Check.isTrue("not by " + by, Math.abs(x.slip(0, 1)) <= 3);
            }
        }
        Check.fill(x, 0, 1, 9);
        Check.fill(x, 1, 1, 0, 0, 0, 9);
        due("one and four", x.slip(0, 1), 3);
        due("four and one", x.slip(1, 0), -3);
        Check.fill(x, 1, 1, 1, 2, 3, 5, 9);
        due("not by 4", x.slip(0, 1), 3);
        due("nor by -4", x.slip(1, 0), -3);
        Check.fill(x, 0, 1, 5, -1, 3);
        Check.fill(x, 1, 1, 4, -1, -1);
        due("both FILLED: 4 and 4 and 4 to 5, 4, 3", x.slip(0, 1), -1);
        Check.fill(x, 0, 3, same(40, 1000000));
        Check.fill(x, 1, 3, same(40, 0));
        due("the greatest differences, alike", x.slip(0, 1), 0);
    }

    /** By how many these are; of like ones the nearest to 0, then that below 0. */
    private static void likeSlips() {
        FootOut x = new FootOut();
        Check.fill(x, 0, 1, 5, 5, 5, 5, 5);
        due("all alike", x.slip(0, 0), 0);
        Check.fill(x, 0, 1, 0, 9, 0, 9, 0, 9);
        Check.fill(x, 1, 1, 9, 0, 9, 0, 9, 0);
        due("1 and -1", x.slip(0, 1), -1);
        Check.fill(x, 0, 1, 0, 0, 9, 9, 0, 0, 9, 9);
        Check.fill(x, 1, 1, 9, 9, 0, 0, 9, 9, 0, 0);
        due("2 and -2", x.slip(0, 1), -2);
        // At -3 9 is put on 9; nowhere else is a difference 0.
        Check.fill(x, 0, 1, 1, 2, 3, 9);
        Check.fill(x, 1, 1, 9, 5, 6, 7);
        due("-3: nothing differs", x.slip(0, 1), -3);
        due("the other way: 3", x.slip(1, 0), 3);
        // At 0 2 by 2, at -1 and 1 1 by 1: like ones.
        Check.fill(x, 0, 1, 1, 1);
        Check.fill(x, 1, 1, 2, 2);
        due("as much by as many", x.slip(0, 1), 0);
        // At 0 3 by 2, at -1 1 by 1, at 1 2 by 1; then at 0 3 by 2, at -1 2 by 1, at 1 5 by 1.
        Check.fill(x, 0, 1, 4, 5);
        Check.fill(x, 1, 1, 6, 6);
        due("3 by 2 is more than 1 by 1", x.slip(0, 1), -1);
        Check.fill(x, 0, 1, 1, 4);
        Check.fill(x, 1, 1, 2, 6);
        due("3 by 2 is less than 2 by 1", x.slip(0, 1), 0);
        // At 0 5 by 3, at -1 3 by 2, at 1 4 by 2, at -2 1 by 1, at 2 2 by 1.
        Check.fill(x, 0, 1, 0, 0, 0);
        Check.fill(x, 1, 1, 1, 2, 2);
        due("1 by 1 is less than 3 by 2", x.slip(0, 1), -2);
        // At 0 5 by 3, at -1 3 by 2, at 1 2 by 2, at -2 3 by 1, at 2 2 by 1.
        Check.fill(x, 1, 1, 3, 0, 2);
        due("2 by 2 is the least", x.slip(0, 1), 1);
    }

    /** ROW 0 to 3, sort 0 to 3, n 0 to 40. */
    private static void numbersBounds() {
        FootOut x = new FootOut();
        for (int row = 0; row < 4; row++) {
            for (int sort = 0; sort < 4; sort++) {
                for (int n : new int[] {0, 1, 39, 40}) {
                    due("numbers(" + row + ", " + sort + ", " + n + ")", x.numbers(row, sort, n), 0);
                    due("one behind the last", x.write(row, n, 1), -7);
                    due("the last", x.write(row, n - 1, 1), n == 0 ? -7 : 1);
                }
            }
        }
        Check.fill(x, 0, 1, 7, 8);
        for (int bad : beyond(0, 3)) {
            due("ROW " + bad, x.numbers(bad, 0, 1), -2);
            due("sort " + bad, x.numbers(0, bad, 1), -2);
            due("ahead of n", x.numbers(0, bad, 41), -2);
        }
        for (int bad : beyond(0, 40)) {
            due("n " + bad, x.numbers(0, 0, bad), -3);
        }
        due("status(0)", x.status(0), 12);
        due("status(1)", x.status(1), 4);
        due("the ROW stays", x.filled(0, 1), 8);
        due("its sort stays", x.write(0, 0, 32767), 32767);
        due("its numbers too", x.filled(0, 2), -7);
        due("no other ROW is made", new FootOut().numbers(1, 0, 41), -3);
    }

    /** All 0, in place of another one. */
    private static void newNumbers() {
        FootOut x = new FootOut();
        Check.fill(x, 2, 3, same(40, 77));
        due("as many anew", x.numbers(2, 0, 40), 0);
        for (int i = 0; i < 40; i++) {
            due("it is 0", x.filled(2, i), 0);
        }
        Check.fill(x, 2, 3, 5, 6, 7);
        due("fewer", x.numbers(2, 3, 1), 0);
        due("more again", x.numbers(2, 3, 3), 0);
        due("all 0", x.filled(2, 0) + x.filled(2, 1) + x.filled(2, 2), 0);
        due("others stay MISSING", x.filled(1, 0), -6);
        FootOut y = new FootOut();
        y.numbers(0, 1, 41);
        due("a MISSING one stays MISSING", y.filled(0, 0), -6);
    }

    /** Cut to 8, 16, 32, 64 bits, with Java's wrap-around. */
    private static void cutToItsSort() {
        FootOut x = new FootOut();
        for (int sort = 0; sort < 4; sort++) {
            due("numbers", x.numbers(sort, sort, 2), 0);
        }
        long[] values = {0, 1, -1, 127, 128, 129, -128, -129, 255, 256, 257, 32767, 32768, 32769, -32768, -32769, 65535, 65536,
            (1L << 31) - 1, 1L << 31, -(1L << 31), -(1L << 31) - 1, (1L << 32) - 1, 1L << 32, 1L << 63, Long.MAX_VALUE,
            Long.MIN_VALUE + 1, 0x8182838485868788L, 0x0102030405060708L};
        for (long v : values) {
            due("8 bits of " + v, x.write(0, 1, v), (byte) v);
            due("16 bits of " + v, x.write(1, 1, v), (short) v);
            due("32 bits of " + v, x.write(2, 1, v), (int) v);
            due("64 bits of " + v, x.write(3, 1, v), v);
            due("as it is there", x.filled(0, 1), (byte) v < 0 ? 0 : (byte) v);
        }
        due("128 is missing in 8 bits", x.write(0, 0, 128), -128);
        x.write(0, 1, 5);
        due("so it is FILLED", x.filled(0, 0), 5);
        due("32768 in 16", x.write(1, 0, 32768), -32768);
        due("1 << 31 in 32", x.write(2, 0, 1L << 31), -(1L << 31));
        due("in 64 it is above", x.write(3, 0, 1L << 31), 1L << 31);
        due("1 << 32 is 0 in 32", x.write(2, 0, 1L << 32), 0);
        due("clumps of these", x.clumps(2, 2, 1, 0) == -3 ? 1 : 0, 1);
        x.write(2, 1, (1L << 32) + 9);
        due("9 of 32 bits", x.filled(2, 1), 9);
    }

    private static void writeBounds() {
        FootOut x = new FootOut();
        Check.fill(x, 0, 2, 3, 4, 5);
        for (int bad : beyond(0, 3)) {
            due("ROW " + bad, x.write(bad, 0, 1), -2);
            due("ahead of the number", x.write(bad, 99, 1), -2);
        }
        for (int bad : beyond(0, 2)) {
            due("number " + bad, x.write(0, bad, 1), -7);
            due("MISSING comes ahead of it", x.write(1, bad, 1), -6);
        }
        due("status(0)", x.status(0), 8);
        due("status(4)", x.status(4), 4);
        due("status(3)", x.status(3), 4);
        for (int i = 0; i < 3; i++) {
            due("it stays", x.filled(0, i), 3 + i);
        }
        due("-2 of a number isn't counted", x.write(0, 0, -2), -2);
        due("nor -6", x.write(0, 0, -6), -6);
        due("nor -7", x.write(0, 0, -7), -7);
        due("status(0)", x.status(0), 8);
        due("status(3)", x.status(3), 4);
        due("status(4)", x.status(4), 4);
    }

    /** IMAGES 0 to 1, none at first. */
    private static void imagesBounds() {
        FootOut x = new FootOut();
        for (int bad : beyond(0, 1)) {
            due("image(" + bad + ")", x.image(bad), -2);
            due("restore(" + bad + ")", x.restore(bad), -2);
        }
        due("status(0)", x.status(0), 8);
        due("none in 0", x.restore(0), -5);
        due("none in 1", x.restore(1), -5);
        due("made in 0", x.image(0), 0);
        due("now there is", x.restore(0), 0);
        due("none in 1 still", x.restore(1), -5);
        due("made in 1", x.image(1), 0);
        due("now there is", x.restore(1), 0);
        due("status(2)", x.status(2), 3);
    }

    private static FootOut changed(FootOut x) {
        Check.scene(x, "lanes 4;car 3 at 7 pace 2 kind 3;line 9;gap 8;waits 7;sight 6;eye;");
        Check.law(x, "stop 11 if near 8;stop 12 if old;");
        x.place(false, 9, 9, 9, 9);
        x.behind(0, 33);
        for (int m = 0; m < 4; m++) {
            x.measure(m, 1, 10 + m);
        }
        for (int i = 0; i < 20; i++) {
            x.pay(i / 10, i / 5 % 2, i % 5, i + 1);
        }
        return x;
    }

    /** THE SCENE, THE LAW, PLACES, MEASURES, PAY; of a new object as of a changed one, as often as one likes. */
    private static void imageHolds() {
        FootOut x = new FootOut();
        x.image(0);
        changed(x);
        x.image(1);
        for (int round = 0; round < 2; round++) {
            due("restore(0)", x.restore(0), 0);
            isNew(x);
            due("restore(1)", x.restore(1), 0);
            isChanged(x);
        }
        due("PAY as it was left", x.pay(0, 0, 0, 44), -5);
        x.image(0);
        x.restore(1);
        due("PAY from IMAGE 1", x.pay(0, 0, 0, 0), 1);
        x.restore(0);
        due("a later IMAGE is in place of an earlier one", x.pay(0, 0, 0, 0), 44);
    }

    private static void isNew(FootOut x) {
        int[] due = {1, 0, 0, 0, 3, 20, 40, 0, 0, 0, 0};
        for (int i = 0; i < due.length; i++) {
            due("a new one's count(" + i + ")", x.count(i), due[i]);
        }
        due("no car", x.car(0, 0), -2);
        due("no line", x.repeals(0), -2);
        due("no PLACE", x.at(0, 0), -2);
        due("PAY", x.pay(1, 1, 4, 0), 0);
        x.place(true, 1, 0, 1, 0);
        due("MEASURES leave 100", x.spent(999, -1), 10000);
        due("nor is any had", x.spent(999, 20), 0);
    }

    /** What changed() made; PAY is -5 behind it. */
    private static void isChanged(FootOut x) {
        int[] due = {4, 1, 8, 9, 8, 7, 6, 2, 1, 0, 7};
        for (int i = 0; i < due.length; i++) {
            due("the changed one's count(" + i + ")", x.count(i), due[i]);
        }
        int[] car = {3, 7, 2, 3};
        for (int what = 0; what < 4; what++) {
            due("its car", x.car(0, what), car[what]);
        }
        int[] place = {0, 9, 9, 9, 9, 33};
        for (int what = 0; what < 6; what++) {
            due("its PLACE", x.at(0, what), place[what]);
        }
        due("its LAW", x.chance(0), 11);
        int[] left = {18000, 1980, 237, 30};
        for (int coin = 1; coin <= 4; coin++) {
            due("its MEASURES", x.spent(coin, -1), left[coin - 1]);
        }
        for (int i = 0; i < 20; i++) {
            due("its PAY", x.pay(i / 10, i / 5 % 2, i % 5, -5), i + 1);
        }
    }

    /** Neither THE TAPE, nor ROWS OF NUMBERS, nor the FAULT, nor the counts of refusals. */
    private static void imageHoldsNot() {
        FootOut x = new FootOut();
        Check.fill(x, 0, 1, 5);
        x.image(0);
        Check.fill(x, 0, 1, 6, 7);
        Check.scene(x, "gap 21;");
        x.feed(0x6f6c643b, 0x20202020, 0x20202020, 0x20202020, 0x20202020);
        x.car(0, 0);
        due("restore", x.restore(0), 0);
        due("the ROW", x.filled(0, 1), 7);
        due("THE TAPE", x.count(9), 20);
        due("its bytes", x.text(0, 4), 1);
        due("the counts", x.status(0) * 10 + x.status(5), 11);
        Check.scene(x, "gap 21;");
        x.restore(0);
        due("the FAULT", x.fault(0), 3);
        due("its place", x.fault(1), 4);
    }

    /** Promise 48: 0 to 5, NONE for others. */
    private static void statusBounds() {
        FootOut x = new FootOut();
        for (int what = 0; what < 6; what++) {
            due("status(" + what + ") at first", x.status(what), 0);
        }
        for (int what : beyond(0, 5)) {
            due("status(" + what + ")", x.status(what), -1);
        }
        for (int i = 1; i <= 3; i++) {
            x.car(0, 0);
            due("by -2", x.status(0), i);
            x.best(4);
            due("by -3", x.status(1), i);
            x.restore(0);
            due("by -5", x.status(2), i);
            x.filled(0, 0);
            due("by -6", x.status(3), i);
            x.numbers(3, 0, 0);
            x.filled(3, 0);
            due("by -7", x.status(4), i);
            Check.scene(x, "?");
            due("by a text", x.status(5), i);
        }
        for (int what = 0; what < 6; what++) {
            due("status(" + what + ")", x.status(what), 3);
        }
        for (int kind = 1; kind <= 5; kind++) {
            FootOut y = new FootOut();
            String[] bad = {"?", "old;", "stop 101", "stop 1 if old;".repeat(13), "stop 1 if (((((((((old"};
            due("FAULT " + kind, Check.law(y, bad[kind - 1]), -30 - kind);
            for (int what = 0; what < 6; what++) {
                due("status(" + what + ") of it", y.status(what), what == 5 ? 1 : 0);
            }
        }
    }

    /** Promise 49: 0 to 10, NONE for others, which is no refusal. */
    private static void countBounds() {
        FootOut x = new FootOut();
        for (int what : beyond(0, 10)) {
            due("count(" + what + ")", x.count(what), -1);
        }
        for (int far : FAR) {
            due("fault(" + far + ")", x.fault(far), -1);
        }
        due("no refusal", x.status(0), 0);
        Check.scene(x, "lanes 3;old;two;two;");
        due("LINES", x.count(10), 4);
        x.trait(0, false);
        x.set(1, 9);
        due("LINES of the text", x.count(10), 4);
        due("TRAITS as they are", x.count(2), 16);
        due("GAP as it is", x.count(4), 9);
    }
}
