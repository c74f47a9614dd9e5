import java.math.BigInteger;
import java.util.List;
import java.util.Random;

/** Promises 3 to 23 on many scenes and laws, against Model. */
public final class ModelTest {
    private static final List<String> WORDS = List.of("old", "pram", "foot", "eye", "two", "lamp", "hump", "paint", "near",
            "fast", "lane", "kind", "ahead", "beside", "passed", "in", "not", "and", "or", "lanes", "car", "at", "pace",
            "line", "gap", "waits", "sight", "stop", "if", ";", "(", ")", "0", "1", "7", "99", "100", "101", "999", "1000",
            "x", "olds", "A", "#", "007");
    /** Scenes whose best WAITS or GAP lies far up. */
    private static final String[][] FAR = {
        {"lanes 2;car 0 at 83 pace 3 kind 0;car 0 at 51 pace 3 kind 2;car 1 at 57 pace 3 kind 1;car 0 at 47 pace 2 kind 1;"
            + "car 1 at 59 pace 2 kind 2;old;gap 17;sight 2;", "stop 70 if in;stop 73 if beside;"},
        {"lanes 3;car 1 at 37 pace 2 kind 0;car 1 at 27 pace 1 kind 0;car 0 at 18 pace 3 kind 1;car 0 at 25 pace 1 kind 2;"
            + "car 0 at 20 pace 2 kind 0;old;gap 18;sight 1;", "stop 40 if near 27;stop 69 if lane 0;"},
        {"car 0 at 1 pace 2 kind 2;car 0 at 39 pace 2 kind 2;car 0 at 58 pace 2 kind 2;car 0 at 27 pace 1 kind 1;old;gap 8;sight 22;",
            "stop 62 if not in;stop 0 if kind 1;"}};
    private static final Random RANDOM = new Random(20261118);
    /** What the RUNS came to, as tests of what hardly ever is would tell little. */
    private static final int[] ended = new int[4];
    private static int held;

    public static void main(String[] args) throws Model.Fault {
        for (int i = 0; i < 6000; i++) {
            readsAlike(RANDOM.nextInt(2));
        }
        for (int i = 0; i < 1500; i++) {
            int cars = i % 50 == 0 ? 8 : RANDOM.nextInt(6);
            goesAlike(sceneText(cars), lawText());
        }
        for (int i = 0; i < 1500; i++) {
            goesAlike(i % 15 == 0 ? slowText() : tightText(i % 50 == 1 ? 8 : 1 + below(5)), lawText());
        }
        for (String[] far : FAR) {
            goesAlike(far[0], far[1]);
            Model m = Model.readScene(far[0]);
            m.law = Model.readLaw(far[1]);
            searchesAlike(Check.with(far[0], far[1]), m, " of far '" + far[0] + "'");
        }
        for (int end = 1; end < 4; end++) {
            Check.isTrue("only " + ended[end] + " RUNS end by " + end, ended[end] > 100);
        }
        Check.isTrue("only " + held + " cars are HELD", held > 100);
        Check.end();
    }

    private static int below(int n) {
        return RANDOM.nextInt(n);
    }

    private static String sceneText(int cars) {
        StringBuilder s = new StringBuilder();
        int lanes = 1 + below(4);
        s.append("lanes ").append(lanes).append(";");
        int far = below(3) == 0 ? 200 : 45;
        for (int c = 0; c < cars; c++) {
            s.append("car ").append(below(lanes)).append(" at ").append(1 + below(far)).append(" pace ");
            s.append(1 + below(9)).append(" kind ").append(below(4)).append(";");
        }
        for (String trait : Model.TRAITS) {
            s.append(below(4) == 0 ? trait + ";" : "");
        }
        s.append(below(2) == 0 ? "line " + below(8) + ";" : "");
        s.append(below(2) == 0 ? "gap " + below(21) + ";" : "");
        s.append(below(2) == 0 ? "waits " + below(61) + ";" : "");
        s.append(below(2) == 0 ? "sight " + (1 + below(below(2) == 0 ? 200 : 30)) + ";" : "");
        return s.toString();
    }

    /** Cars are near, queue in few lanes, and she does not wait for long. */
    private static String tightText(int cars) {
        StringBuilder s = new StringBuilder();
        int lanes = 1 + below(3);
        s.append("lanes ").append(lanes).append(";");
        int far = below(2) == 0 ? 12 : 30;
        for (int c = 0; c < cars; c++) {
            s.append("car ").append(below(2) == 0 ? lanes - 1 : below(lanes)).append(" at ").append(1 + below(far));
            s.append(" pace ").append(1 + below(below(2) == 0 ? 4 : 9)).append(" kind ").append(below(4)).append(";");
        }
        for (String trait : Model.TRAITS) {
            s.append(below(trait.equals("old") ? 2 : 6) == 0 ? trait + ";" : "");
        }
        s.append(below(3) == 0 ? "line " + below(below(2) == 0 ? 6 : 31) + ";" : "");
        s.append("gap ").append(below(2) == 0 ? below(3) : below(21)).append(";");
        s.append("waits ").append(below(below(2) == 0 ? 4 : 12)).append(";");
        s.append(below(2) == 0 ? "sight " + (1 + below(40)) + ";" : "");
        return s.toString();
    }

    /** Cars crawl along in a row, and she needs long gaps: behind 99 TICKS she may not be over. */
    private static String slowText() {
        StringBuilder s = new StringBuilder("lanes 3;gap " + (18 + below(3)) + ";waits " + below(61) + ";sight " + (1 + below(4)) + ";");
        int lane = 1 + below(2);
        int at = 5 + below(16);
        for (int c = 0; c < 7; c++) {
            s.append("car ").append(lane).append(" at ").append(at).append(" pace 1 kind ").append(below(4)).append(";");
            at += 14 + below(5);
        }
        return s.append(below(2) == 0 ? "old;" : "").toString();
    }

    private static String lawText() {
        StringBuilder s = new StringBuilder();
        int lines = below(5);
        for (int k = 0; k < lines; k++) {
            String line = "stop " + (below(4) == 0 ? 100 * below(2) : below(101)) + " if " + testText(3) + ";";
            if (s.length() + line.length() <= 400) {
                s.append(line);
            }
        }
        return s.toString();
    }

    private static String testText(int deep) {
        StringBuilder s = new StringBuilder(factText(deep));
        while (below(3) == 0) {
            s.append(below(2) == 0 ? " or " : " and ").append(factText(deep));
        }
        return s.toString();
    }

    private static String factText(int deep) {
        if (deep > 0 && below(4) == 0) {
            return below(2) == 0 ? "not " + factText(deep - 1) : "(" + testText(deep - 1) + ")";
        }
        return switch (below(9)) {
            case 0 -> "near " + below(60);
            case 1 -> "fast " + below(10);
            case 2 -> "lane " + below(4);
            case 3 -> "kind " + below(4);
            case 4 -> "ahead";
            case 5 -> "beside";
            case 6 -> "passed";
            case 7 -> "in";
            default -> Model.TRAITS.get(below(8));
        };
    }

    private static String spoiled(String text) {
        StringBuilder s = new StringBuilder(text);
        int changes = below(3);
        for (int i = 0; i < changes && s.length() > 0; i++) {
            int at = below(s.length() + 1);
            switch (below(4)) {
                case 0 -> s.insert(at, WORDS.get(below(WORDS.size())));
                case 1 -> s.insert(at, " " + WORDS.get(below(WORDS.size())) + (below(2) == 0 ? "\n" : " "));
                case 2 -> s.delete(at, Math.min(s.length(), at + 1 + below(6)));
                default -> s.setLength(at);
            }
        }
        s.setLength(Math.min(s.length(), 400));
        return s.toString();
    }

    private static void readsAlike(int what) {
        String text = spoiled(what == 0 ? sceneText(below(10)) : lawText() + (below(20) == 0 ? lawText() + lawText() : ""));
        if (below(10) == 0) {
            text = spoiled("stop 1 if " + "not ".repeat(below(10)) + "(".repeat(below(10)) + "old" + ")".repeat(below(10)) + ";");
        }
        FootOut x = new FootOut();
        int due;
        int kind = 0;
        int place = -1;
        try {
            due = what == 0 ? Model.readScene(text).lines : Model.readLaw(text).size();
        } catch (Model.Fault f) {
            due = -30 - f.kind;
            kind = f.kind;
            place = f.place;
        }
        Check.due("text(" + what + ", '" + text + "')", Check.read(x, what, text), due);
        Check.due("fault(0) of '" + text + "'", x.fault(0), kind);
        Check.due("fault(1) of '" + text + "'", x.fault(1), place);
        Check.due("status(5)", x.status(5), kind == 0 ? 0 : 1);
    }

    private static void goesAlike(String scene, String law) throws Model.Fault {
        if (scene.length() > 400 || law.length() > 400) {
            return;
        }
        Model m = Model.readScene(scene);
        m.law = Model.readLaw(law);
        FootOut x = Check.with(scene, law);
        String of = " of '" + scene + "' and '" + law + "'";
        countsAlike(x, m, of);
        runsAlike(x, m, of);
        oddsAlike(x, m, of);
        if (m.cars.size() < 4) {
            searchesAlike(x, m, of);
        }
    }

    private static void countsAlike(FootOut x, Model m, String of) {
        int[] due = {m.lanes, m.cars.size(), m.traits, m.line, m.gap, m.waits, m.sight, m.law.size(), 0, 0, m.lines};
        for (int i = 0; i < due.length; i++) {
            Check.due("count(" + i + ")" + of, x.count(i), due[i]);
        }
        Model.Run first = new Model.Run(m);
        for (Model.Car c : first.cars) {
            Model.Car told = m.cars.get(c.number);
            Check.due("car 0" + of, x.car(c.number, 0), told.lane);
            Check.due("car 1" + of, x.car(c.number, 1), told.dist);
            Check.due("car 2" + of, x.car(c.number, 2), told.pace);
            Check.due("car 3" + of, x.car(c.number, 3), told.kind);
            Check.due("chance" + of, x.chance(c.number), first.chance(c));
            Check.due("can" + of, x.can(c.number), first.can(c) ? 1 : 0);
        }
    }

    private static void runsAlike(FootOut x, Model m, String of) {
        int seed = below(4) == 0 ? Integer.MAX_VALUE - 1 : RANDOM.nextInt();
        int harm = 0;
        int ticks = 0;
        int[] ends = new int[4];
        for (int i = 0; i < 3; i++) {
            Model.Run r = m.play(seed + i, 99);
            int bits = 0;
            for (Model.Car c : r.cars) {
                bits |= c.mind == 2 ? 1 << c.number : 0;
            }
            int[] due = {r.end, r.ticks, r.harm, r.by, bits, r.stood};
            for (int what = 0; what < 6; what++) {
                Check.due("run(" + (seed + i) + ", " + what + ")" + of, x.run(seed + i, what), due[what]);
            }
            Check.due("margin(" + (seed + i) + ")" + of, x.margin(seed + i), r.margin);
            harm += r.harm;
            ticks += r.ticks;
            ends[r.end]++;
            ended[r.end]++;
        }
        for (int how = 1; how < 4; how++) {
            Check.due("tries " + how + of, x.tries(seed, 3, how), ends[how]);
        }
        Check.due("tries 4" + of, x.tries(seed, 3, 4), harm);
        Check.due("tries 5" + of, x.tries(seed, 3, 5), ticks);
        for (int t : new int[] {0, 1, 2, 3, below(100), 99}) {
            Model.Run r = m.play(seed, t);
            Check.due("stands " + t + of, x.stands(seed, t), 10 * r.past + (r.in ? 1 : 0));
            for (Model.Car c : r.cars) {
                Check.due("watch 0" + of, x.watch(seed, t, c.number, 0), c.dist);
                Check.due("watch 1" + of, x.watch(seed, t, c.number, 1), c.pace);
                Check.due("watch 2" + of, x.watch(seed, t, c.number, 2), c.mind);
                Check.due("watch 3" + of, x.watch(seed, t, c.number, 3), c.held ? 1 : 0);
                held += c.held ? 1 : 0;
            }
        }
    }

    private static void oddsAlike(FootOut x, Model m, String of) {
        Model.Odds o = m.odds();
        long[] due = {o.over, o.knocked, o.late, o.ticks, o.harm, o.all};
        for (int what = 0; what < 6; what++) {
            Check.due("odds(" + what + ")" + of, x.odds(what), due[what]);
        }
        BigInteger common = BigInteger.valueOf(o.ticks).gcd(BigInteger.valueOf(o.all));
        Check.due("mean(0)" + of, x.mean(0), o.ticks / common.longValue());
        Check.due("mean(1)" + of, x.mean(1), o.all / common.longValue());
        for (int c = 0; c < m.cars.size(); c++) {
            Check.due("blame 0" + of, x.blame(c, 0), o.blame[c]);
            Check.due("blame 1" + of, x.blame(c, 1), o.stops[c]);
        }
        if (m.cars.size() > 5) {
            return;
        }
        for (int c = 0; c < m.cars.size(); c++) {
            Model without = m.copy();
            without.cars.remove(c);
            Check.due("absent(" + c + ")" + of, x.absent(c), 100 * without.odds().knocked - o.knocked);
        }
        for (int k = 0; k < m.law.size(); k++) {
            Model without = m.copy();
            without.law.remove(k);
            Check.due("repeals(" + k + ")" + of, x.repeals(k), without.odds().over - o.over);
        }
        for (int trait = 0; trait < 8; trait++) {
            Model other = m.copy();
            other.traits ^= 1 << trait;
            Check.due("helps(" + trait + ")" + of, x.helps(trait), other.odds().over - o.over);
        }
    }

    private static void searchesAlike(FootOut x, Model m, String of) {
        int k = below(4);
        Model other = m.copy();
        long most = -1;
        int found = 0;
        for (int bits = 0; bits < 256; bits++) {
            other.traits = m.traits ^ bits;
            if (Integer.bitCount(bits) == k) {
                long over = other.odds().over;
                found = over > most ? bits : found;
                most = Math.max(over, most);
            }
        }
        Check.due("best(" + k + ")" + of, x.best(k), found);
        int at = below(4) == 0 ? 1000 * below(2) : below(1001);
        other = m.copy();
        found = -1;
        for (int line = 30; line >= 0; line--) {
            other.line = line;
            Model.Odds o = other.odds();
            found = o.knocked * 1000 <= o.all * at ? line : found;
        }
        Check.due("back(" + at + ")" + of, x.back(at), found);
        Check.due("wise(0)" + of, x.wise(0), wise(m, 0));
        Check.due("wise(1)" + of, x.wise(1), wise(m, 1));
        Check.due("odds as they were" + of, x.odds(0), m.odds().over);
        Check.due("count as it was" + of, x.count(2), m.traits);
    }

    private static int wise(Model m, int what) {
        Model other = m.copy();
        long most = -1;
        int found = 0;
        for (int v = 0; v <= (what == 0 ? 60 : 20); v++) {
            other.waits = what == 0 ? v : m.waits;
            other.gap = what == 1 ? v : m.gap;
            long over = other.odds().over;
            found = over > most ? v : found;
            most = Math.max(over, most);
        }
        return found;
    }
}
