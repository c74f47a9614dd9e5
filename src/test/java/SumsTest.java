import java.math.BigInteger;
import java.util.ArrayList;
import java.util.Arrays;
import java.util.HashMap;
import java.util.List;
import java.util.Map;
import java.util.Random;

/** Promises 24 to 45 on many numbers, against the plainest ways to find the same. */
public final class SumsTest {
    private static final Random RANDOM = new Random(49);

    public static void main(String[] args) {
        for (int i = 0; i < 400; i++) {
            places(1 + below(12), i % 4 == 0);
        }
        for (int i = 0; i < 60; i++) {
            spending(below(4));
        }
        spendingOfTwelve();
        for (int i = 0; i < 300; i++) {
            rests();
            rows();
            fines();
        }
        Check.end();
    }

    private static int below(int n) {
        return RANDOM.nextInt(n);
    }

    private static FootOut withPlaces(int[][] p, boolean small) {
        FootOut x = new FootOut();
        for (int i = 0; i < p.length; i++) {
            int old = below(small ? 4 : 301);
            int others = below(small ? 4 : 301);
            p[i] = new int[] {below(2), old, others, below(old + 1), below(others + 1), below(601)};
            x.place(p[i][0] == 1, old, others, p[i][3], p[i][4]);
            x.behind(i, p[i][5]);
        }
        return x;
    }

    private static void places(int n, boolean small) {
        int[][] p = new int[n][];
        FootOut x = withPlaces(p, small);
        String of = " of " + Arrays.deepToString(p);
        int[][] sums = new int[2][6];
        for (int i = 0; i < n; i++) {
            for (int what = 0; what < 6; what++) {
                Check.due("at" + of, x.at(i, what), p[i][what]);
                sums[p[i][0]][what] += p[i][what];
            }
        }
        for (int painted = 0; painted < 2; painted++) {
            int hurt = sums[painted][3] + sums[painted][4];
            int cross = Math.max(1, sums[painted][1] + sums[painted][2]);
            int common = BigInteger.valueOf(hurt).gcd(BigInteger.valueOf(cross)).intValue();
            Check.due("rate 0" + of, x.rate(painted == 1, 0), hurt / common);
            Check.due("rate 1" + of, x.rate(painted == 1, 1), cross / common);
        }
        Check.due("parted" + of, x.parted(), new int[] {2, 0, 1}[1 + parted(sums, 1).compareTo(parted(sums, 0))]);
        ranked(x, p, of);
        for (int k = 0; k <= n; k++) {
            worst(x, p, k, of);
        }
    }

    /** Times all four sums below, so that it has no fraction. */
    private static BigInteger parted(int[][] sums, int painted) {
        BigInteger whole = BigInteger.ONE;
        for (int i = 0; i < 4; i++) {
            whole = whole.multiply(BigInteger.valueOf(Math.max(1, sums[i / 2][1 + i % 2])));
        }
        BigInteger sum = BigInteger.ZERO;
        for (int who = 1; who <= 2; who++) {
            int cross = Math.max(1, sums[painted][who]);
            BigInteger all = BigInteger.valueOf(sums[0][who] + sums[1][who]);
            BigInteger hurt = BigInteger.valueOf(sums[painted][2 + who]);
            sum = sum.add(whole.divide(BigInteger.valueOf(cross)).multiply(hurt).multiply(all));
        }
        return sum;
    }

    private static void ranked(FootOut x, int[][] p, String of) {
        List<Integer> order = new ArrayList<>();
        for (int i = 0; i < p.length; i++) {
            order.add(i);
        }
        order.sort((a, b) -> Double.compare(share(p[b]), share(p[a])));
        for (int k = 0; k < p.length; k++) {
            Check.due("ranked(" + k + ")" + of, x.ranked(k), order.get(k));
        }
        Check.due("ranked" + of, x.ranked(p.length), -1);
    }

    /** Fractions of numbers up to 600 differ by far more than a double's error, and like ones divide alike. */
    private static double share(int[] p) {
        return p[1] + p[2] == 0 ? 0 : (double) (p[3] + p[4]) / (p[1] + p[2]);
    }

    private static void worst(FootOut x, int[][] p, int k, String of) {
        List<Integer> order = new ArrayList<>();
        for (int i = 0; i < p.length; i++) {
            order.add(i);
        }
        order.sort((a, b) -> p[b][3] + p[b][4] - p[a][3] - p[a][4]);
        List<Integer> chosen = new ArrayList<>(order.subList(0, k));
        chosen.sort(Integer::compare);
        Check.due("worst(" + k + ", 0)" + of, x.worst(k, 0), bits(chosen));
        Check.due("worst(" + k + ", 1)" + of, x.worst(k, 1), fall(p, chosen));
        List<Integer> others = new ArrayList<>();
        for (int i = 0; i < p.length; i++) {
            if (!chosen.contains(i)) {
                others.add(i);
            }
        }
        if (others.size() < k) {
            Check.due("worst(" + k + ", 2)" + of, x.worst(k, 2), -1000000);
            return;
        }
        List<Integer> matches = new ArrayList<>();
        for (int c : chosen) {
            int hurt = p[c][3] + p[c][4];
            Integer match = others.stream()
                    .min((a, b) -> Math.abs(p[a][3] + p[a][4] - hurt) - Math.abs(p[b][3] + p[b][4] - hurt)).get();
            matches.add(match);
            others.remove(match);
        }
        Check.due("worst(" + k + ", 2)" + of, x.worst(k, 2), fall(p, matches));
        Check.due("worst(" + k + ", 3)" + of, x.worst(k, 3), bits(matches));
    }

    private static int bits(List<Integer> list) {
        return list.stream().mapToInt(i -> 1 << i).sum();
    }

    private static int fall(int[][] p, List<Integer> list) {
        return list.stream().mapToInt(i -> p[i][3] + p[i][4] - p[i][5]).sum();
    }

    private static void spending(int n) {
        int[][] p = new int[n][];
        FootOut x = withPlaces(p, below(2) == 0);
        int[] cost = {1, 1, 1, 1};
        int[] left = {100, 100, 100, 100};
        for (int m = 0; m < 4; m++) {
            if (below(4) > 0) {
                cost[m] = 1 + below(below(2) == 0 ? 99 : 6);
                left[m] = below(2) == 0 ? below(101) : 50;
                x.measure(m, cost[m], left[m]);
            }
        }
        for (int i = 0; i < 4; i++) {
            int coin = below(2) == 0 ? below(1000) : below(40);
            long best = Long.MAX_VALUE;
            int[] found = new int[n];
            for (int code = 0; code < 1 << 4 * n; code++) {
                int all = 0;
                int costs = 0;
                for (int q = 0; q < n; q++) {
                    int set = code >> 4 * (n - 1 - q) & 15;
                    int l = (p[q][3] + p[q][4]) * 10000;
                    for (int m = 0; m < 4; m++) {
                        if ((set >> m & 1) != 0) {
                            l = l * left[m] / 100;
                            costs += cost[m];
                        }
                    }
                    all += l;
                }
                if (costs <= coin && all * 10000L + costs < best) {
                    best = all * 10000L + costs;
                    for (int q = 0; q < n; q++) {
                        found[q] = code >> 4 * (n - 1 - q) & 15;
                    }
                }
            }
            String of = " of " + Arrays.deepToString(p) + Arrays.toString(cost) + Arrays.toString(left);
            Check.due("spent(" + coin + ", -1)" + of, x.spent(coin, -1), best / 10000);
            Check.due("spent(" + coin + ", 20)" + of, x.spent(coin, 20), best % 10000);
            for (int q = 0; q < n; q++) {
                Check.due("spent(" + coin + ", " + q + ")" + of, x.spent(coin, q), found[q]);
            }
        }
    }

    /** Too many for all sets: but what is answered must fit together, and never be worse with more coin. */
    private static void spendingOfTwelve() {
        FootOut x = new FootOut();
        for (int q = 0; q < 12; q++) {
            x.place(true, 300, 300, 300, 300 - q);
        }
        int[] cost = {99, 98, 97, 5};
        int[] left = {10, 11, 12, 99};
        for (int m = 0; m < 4; m++) {
            x.measure(m, cost[m], left[m]);
        }
        int before = Integer.MAX_VALUE;
        for (int coin = 0; coin < 1000; coin++) {
            int all = 0;
            int costs = 0;
            for (int q = 0; q < 12; q++) {
                int set = x.spent(coin, q);
                int l = (600 - q) * 10000;
                for (int m = 0; m < 4; m++) {
                    if ((set >> m & 1) != 0) {
                        l = l * left[m] / 100;
                        costs += cost[m];
                    }
                }
                all += l;
            }
            Check.due("spent " + coin, x.spent(coin, -1), all);
            Check.due("spent cost " + coin, x.spent(coin, 20), costs);
            Check.isTrue("within " + coin, costs <= coin && all <= before);
            before = all;
        }
    }

    private static void rests() {
        FootOut x = new FootOut();
        int[][][] pay = new int[2][2][5];
        for (int i = 0; i < 20; i++) {
            int v = below(3) - 1;
            Check.due("pay", x.pay(i / 10, i / 5 % 2, i % 5, v), 0);
            pay[i / 10][i / 5 % 2][i % 5] = v;
        }
        int k = below(5);
        int m = below(5);
        int found = 0;
        int first = -1;
        for (int i = k; i >= 0; i--) {
            for (int j = m; j >= 0; j--) {
                boolean rest = true;
                for (int a = 0; a < k; a++) {
                    int goes = a < i ? 1 : 0;
                    rest &= pay[0][1 - goes][j] <= pay[0][goes][j];
                }
                for (int b = 0; b < m; b++) {
                    int goes = b < j ? 1 : 0;
                    rest &= pay[1][1 - goes][i] <= pay[1][goes][i];
                }
                found += rest ? 1 : 0;
                first = rest ? 10 * i + j : first;
            }
        }
        String of = " of " + Arrays.deepToString(pay);
        Check.due("rests(" + k + ", " + m + ", 0)" + of, x.rests(k, m, 0), found);
        Check.due("rests(" + k + ", " + m + ", 1)" + of, x.rests(k, m, 1), first);
    }

    private static void rows() {
        FootOut x = new FootOut();
        int[][] rows = new int[2][];
        for (int r = 0; r < 2; r++) {
            rows[r] = new int[below(4) == 0 ? 1 + below(3) : 1 + below(40)];
            x.numbers(r, 2, rows[r].length);
            for (int i = 0; i < rows[r].length; i++) {
                rows[r][i] = below(3) == 0 ? -1 - below(9) : below(below(2) == 0 ? 4 : 1000001);
                x.write(r, i, rows[r][i]);
            }
            for (int i = 0; i < rows[r].length; i++) {
                Check.due("filled of " + Arrays.toString(rows[r]), x.filled(r, i), filled(rows[r], i));
            }
        }
        Check.due("slip of " + Arrays.deepToString(rows), x.slip(0, 1), slip(rows[0], rows[1]));
        clumps();
    }

    private static int filled(int[] row, int i) {
        List<Integer> there = new ArrayList<>();
        for (int j = i; j >= 0 && there.isEmpty(); j--) {
            if (row[j] >= 0) {
                there.add(row[j]);
            }
        }
        int ahead = there.size();
        for (int j = i; j < row.length && there.size() == ahead; j++) {
            if (row[j] >= 0) {
                there.add(row[j]);
            }
        }
        return there.isEmpty() ? -1 : there.stream().mapToInt(v -> v).sum() / there.size();
    }

    private static int slip(int[] row, int[] other) {
        if (filled(row, 0) < 0 || filled(other, 0) < 0) {
            return -100;
        }
        int found = 0;
        long least = -1;
        long shared = 1;
        for (int by : new int[] {0, -1, 1, -2, 2, -3, 3}) {
            long sum = 0;
            long both = 0;
            for (int i = 0; i < row.length; i++) {
                if (i + by >= 0 && i + by < other.length) {
                    sum += Math.abs(filled(row, i) - filled(other, i + by));
                    both++;
                }
            }
            if (both > 0 && (least < 0 || sum * shared < least * both)) {
                least = sum;
                shared = both;
                found = by;
            }
        }
        return found;
    }

    private static void clumps() {
        FootOut x = new FootOut();
        int n = below(41);
        x.numbers(3, 1, n);
        int c = 2 + below(below(2) == 0 ? 998 : 20);
        int g = 1 + below(c - 1);
        int waited = 0;
        Map<Integer, Integer> at = new HashMap<>();
        for (int i = 0; i < n; i++) {
            int t = below(below(2) == 0 ? 10000 : 60);
            x.write(3, i, t);
            int goes = t;
            if (t % c >= g) {
                while (goes % c != 0) {
                    goes++;
                }
            }
            waited += goes - t;
            at.merge(goes, 1, Integer::sum);
        }
        Check.due("clumps 0", x.clumps(3, c, g, 0), waited);
        Check.due("clumps 1", x.clumps(3, c, g, 1), at.values().stream().mapToInt(v -> v).max().orElse(0));
        Check.due("clumps 2", x.clumps(3, c, g, 2), at.size());
    }

    private static void fines() {
        FootOut x = new FootOut();
        int now = below(1001);
        int base = below(1001);
        int d = below(101);
        int near = below(30);
        int stop = now;
        int until = -1;
        for (int month = 0; month <= 999; month++) {
            if (month <= 60) {
                Check.due("fine", x.fine(now, base, d, month), stop);
            }
            until = until < 0 && Math.abs(stop - base) <= near ? month : until;
            int step = Math.abs(base - stop) * d / 100;
            stop += stop < base ? step : -step;
        }
        Check.due("until(" + now + ", " + base + ", " + d + ", " + near + ")", x.until(now, base, d, near), until);
        int p = below(1001);
        int q = below(2) == 0 ? below(1001) : Math.min(1000, p + below(40));
        int lot = -1;
        for (int n = 9999; n >= 1; n--) {
            lot = n * (long) (p - q) * (p - q) >= 4L * (p * (1000 - p) + q * (1000 - q)) ? n : lot;
        }
        Check.due("lot(" + p + ", " + q + ")", x.lot(p, q), lot);
        int n = 1 + below(300);
        int m = 1 + below(300);
        int a = below(n + 1);
        int b = below(m + 1);
        double apart = (double) a / n - (double) b / m;
        double spread = (double) a * (n - a) / n / n / n + (double) b * (m - b) / m / m / m;
        if (Math.abs(apart * apart - 4 * spread) > 1e-9) {
            Check.due("shown(" + a + ", " + n + ", " + b + ", " + m + ")", x.shown(a, n, b, m), apart * apart > 4 * spread ? 1 : 0);
        }
    }
}
