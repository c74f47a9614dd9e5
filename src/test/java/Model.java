import java.util.ArrayList;
import java.util.List;
import java.util.regex.Matcher;
import java.util.regex.Pattern;

/** The document's texts and TICKS once more, as slowly and literally as can be, to weigh the class against. */
final class Model {
    static final List<String> TRAITS = List.of("old", "pram", "foot", "eye", "two", "lamp", "hump", "paint");

    /** A FAULT of a text. */
    static final class Fault extends Exception {
        private static final long serialVersionUID = 1L;
        final int kind;
        final int place;

        Fault(int kind, int place) {
            this.kind = kind;
            this.place = place;
        }
    }

    static final class Car {
        int number;
        int lane;
        int dist;
        int pace;
        int kind;
        int mind;
        boolean held;
        boolean branched;
        int by;

        Car copy() {
            Car c = new Car();
            c.number = number;
            c.lane = lane;
            c.dist = dist;
            c.pace = pace;
            c.kind = kind;
            return c;
        }
    }

    interface Fact {
        boolean holds(Run run, Car car);
    }

    interface Driver {
        boolean stops(Car car, int n);
    }

    record LawLine(int n, Fact test) {
    }

    int lanes = 1;
    final List<Car> cars = new ArrayList<>();
    int traits;
    int line = 0;
    int gap = 3;
    int waits = 20;
    int sight = 40;
    int lines;
    List<LawLine> law = new ArrayList<>();

    Model copy() {
        Model m = new Model();
        m.lanes = lanes;
        for (Car c : cars) {
            m.cars.add(c.copy());
        }
        m.traits = traits;
        m.line = line;
        m.gap = gap;
        m.waits = waits;
        m.sight = sight;
        m.lines = lines;
        m.law = new ArrayList<>(law);
        return m;
    }

    boolean has(String trait) {
        return (traits >> TRAITS.indexOf(trait) & 1) != 0;
    }

    // ---- texts

    record Token(String word, int place) {
        boolean isNumber() {
            return word.matches("[0-9]{1,3}");
        }

        boolean isBad() {
            return !word.isEmpty() && !word.matches("[a-z]+|[0-9]{1,3}|[;()]");
        }
    }

    static final class Tokens {
        final List<Token> list = new ArrayList<>();
        int at = 0;

        Tokens(String text) {
            Matcher m = Pattern.compile("[a-z]+|[0-9]+|[^ \\n]", Pattern.DOTALL).matcher(text);
            while (m.find()) {
                list.add(new Token(m.group(), m.start()));
            }
            list.add(new Token("", text.length()));
        }

        Token look() {
            return list.get(at);
        }

        Fault fault(int kind) {
            return new Fault(look().isBad() ? 1 : kind, look().place());
        }

        boolean ends() {
            return look().word().isEmpty();
        }

        void take(String word) throws Fault {
            if (!look().word().equals(word)) {
                throw fault(2);
            }
            at++;
        }

        int number(int least, int most) throws Fault {
            if (!look().isNumber()) {
                throw fault(2);
            }
            int n = Integer.parseInt(look().word());
            if (n < least || n > most) {
                throw fault(3);
            }
            at++;
            return n;
        }
    }

    static Model readScene(String text) throws Fault {
        Model m = new Model();
        Tokens t = new Tokens(text);
        while (!t.ends()) {
            String word = t.look().word();
            if (word.equals("car") && m.cars.size() == 8) {
                throw t.fault(4);
            }
            if (!TRAITS.contains(word) && !List.of("lanes", "car", "line", "gap", "waits", "sight").contains(word)) {
                throw t.fault(2);
            }
            t.at++;
            switch (word) {
                case "lanes" -> {
                    int needed = m.cars.stream().mapToInt(c -> c.lane + 1).max().orElse(1);
                    m.lanes = t.number(needed, 4);
                }
                case "car" -> {
                    Car c = new Car();
                    c.number = m.cars.size();
                    c.lane = t.number(0, m.lanes - 1);
                    t.take("at");
                    c.dist = t.number(1, 200);
                    t.take("pace");
                    c.pace = t.number(1, 9);
                    t.take("kind");
                    c.kind = t.number(0, 3);
                    m.cars.add(c);
                }
                case "line" -> m.line = t.number(0, 30);
                case "gap" -> m.gap = t.number(0, 20);
                case "waits" -> m.waits = t.number(0, 60);
                case "sight" -> m.sight = t.number(1, 200);
                default -> m.traits |= 1 << TRAITS.indexOf(word);
            }
            t.take(";");
            m.lines++;
        }
        return m;
    }

    static List<LawLine> readLaw(String text) throws Fault {
        List<LawLine> law = new ArrayList<>();
        Tokens t = new Tokens(text);
        while (!t.ends()) {
            if (t.look().word().equals("stop") && law.size() == 12) {
                throw t.fault(4);
            }
            t.take("stop");
            int n = t.number(0, 100);
            t.take("if");
            Fact test = test(t, 0);
            t.take(";");
            law.add(new LawLine(n, test));
        }
        return law;
    }

    private static Fact test(Tokens t, int open) throws Fault {
        Fact first = part(t, open);
        if (!t.look().word().equals("or")) {
            return first;
        }
        t.at++;
        Fact rest = test(t, open);
        return (r, c) -> first.holds(r, c) || rest.holds(r, c);
    }

    private static Fact part(Tokens t, int open) throws Fault {
        Fact first = fact(t, open);
        if (!t.look().word().equals("and")) {
            return first;
        }
        t.at++;
        Fact rest = part(t, open);
        return (r, c) -> first.holds(r, c) && rest.holds(r, c);
    }

    private static Fact fact(Tokens t, int open) throws Fault {
        String word = t.look().word();
        if (word.equals("not") || word.equals("(")) {
            if (open == 8) {
                throw t.fault(5);
            }
            t.at++;
            if (word.equals("not")) {
                Fact inner = fact(t, open + 1);
                return (r, c) -> !inner.holds(r, c);
            }
            Fact inner = test(t, open + 1);
            t.take(")");
            return inner;
        }
        if (TRAITS.contains(word)) {
            t.at++;
            return (r, c) -> r.scene.has(word);
        }
        if (List.of("near", "fast", "lane", "kind").contains(word)) {
            t.at++;
            int n = t.number(0, 999);
            return switch (word) {
                case "near" -> (r, c) -> c.dist < n;
                case "fast" -> (r, c) -> c.pace >= n;
                case "lane" -> (r, c) -> c.lane == n;
                default -> (r, c) -> c.kind == n;
            };
        }
        Fact plain = switch (word) {
            case "ahead" -> (r, c) -> r.cars.stream().anyMatch(
                    o -> o.lane == c.lane && o.dist > 0 && o.dist < c.dist && o.mind == 2);
            case "beside" -> (r, c) -> r.cars.stream().anyMatch(
                    o -> Math.abs(o.lane - c.lane) == 1 && o.dist > 0 && o.mind == 2);
            case "passed" -> (r, c) -> r.cars.stream().anyMatch(
                    o -> o.lane != c.lane && o.dist > 0 && o.dist < c.dist && o.mind == 1);
            case "in" -> (r, c) -> r.past > 0 || r.in;
            default -> null;
        };
        if (plain == null) {
            throw t.fault(2);
        }
        t.at++;
        return plain;
    }

    // ---- ticks

    static final class Run {
        final Model scene;
        final List<Car> cars = new ArrayList<>();
        int past;
        boolean in;
        int inFor;
        int stood;
        int ticks;
        int end;
        int harm;
        int by = -1;
        int margin = -1;

        Run(Model scene) {
            this.scene = scene;
            for (Car told : scene.cars) {
                Car c = told.copy();
                c.number = cars.size();
                if (scene.has("hump")) {
                    c.pace = Math.min(4, c.pace);
                }
                cars.add(c);
            }
        }

        int chance(Car c) {
            for (LawLine l : scene.law) {
                if (l.test().holds(this, c)) {
                    return l.n();
                }
            }
            return 0;
        }

        boolean can(Car c) {
            return c.pace * (c.pace - 1) / 2 <= c.dist - scene.line;
        }

        boolean hidden(Car c) {
            for (Car o : cars) {
                if (o.lane + 1 == c.lane && o.kind >= 1 && o.mind == 2 && o.pace == 0
                        && o.dist >= 1 && o.dist <= 3 && o.dist < c.dist) {
                    return true;
                }
            }
            return false;
        }

        boolean free(int lane) {
            for (Car c : cars) {
                if (c.lane != lane || c.dist <= 0 || c.mind == 2 || c.held || hidden(c)) {
                    continue;
                }
                int needs = (c.dist + c.pace - 1) / c.pace;
                if (needs <= scene.gap) {
                    return false;
                }
            }
            return true;
        }

        void tick(Driver driver) {
            for (Car c : cars) {
                if (c.mind == 0 && c.dist >= 1 && c.dist <= scene.sight) {
                    int n = chance(c);
                    c.by = n;
                    c.branched = can(c);
                    c.mind = can(c) && driver.stops(c, n) ? 2 : 1;
                }
            }
            if (!in) {
                if (free(past) || past == 0 && stood >= scene.waits) {
                    in = true;
                    inFor = 0;
                }
            }
            List<Car> knocking = new ArrayList<>();
            for (int lane = 0; lane < scene.lanes; lane++) {
                goLane(lane, knocking);
            }
            if (in) {
                Car knocker = knocking.stream().filter(c -> c.lane == past)
                        .min((a, b) -> a.number - b.number).orElse(null);
                if (knocker != null) {
                    end = 2;
                    by = knocker.number;
                    harm = knocker.pace * knocker.pace * (scene.has("old") ? 2 : 1);
                } else if (++inFor == (scene.has("old") ? 2 : 1)) {
                    in = false;
                    past++;
                    if (past == scene.lanes) {
                        end = 1;
                    }
                }
            }
            if (past == 0 && !in) {
                stood++;
            }
            ticks++;
            if (end == 0 && ticks == 99) {
                end = 3;
            }
            if (in) {
                for (Car c : cars) {
                    if (c.lane == past && c.dist > 0 && (margin < 0 || c.dist < margin)) {
                        margin = c.dist;
                    }
                }
            }
        }

        private void goLane(int lane, List<Car> knocking) {
            List<Car> going = new ArrayList<>(cars.stream().filter(c -> c.lane == lane && c.dist > 0).toList());
            going.sort((a, b) -> a.dist != b.dist ? a.dist - b.dist : a.number - b.number);
            List<Car> went = new ArrayList<>();
            for (Car c : going) {
                c.held = false;
                if (c.mind == 2) {
                    c.pace = Math.max(0, c.pace - 1);
                    c.dist -= c.pace;
                } else {
                    int nearest = -1;
                    for (Car o : went) {
                        if (o.dist > 0 && (o.mind == 2 || o.held)) {
                            nearest = Math.max(nearest, o.dist);
                        }
                    }
                    int wanted = c.dist - c.pace;
                    int to = wanted;
                    if (nearest > 0 && to < nearest + 2) {
                        to = Math.min(nearest + 2, c.dist);
                    }
                    c.held = to != wanted;
                    c.dist = to;
                }
                went.add(c);
                if (c.dist <= 0) {
                    knocking.add(c);
                }
            }
        }
    }

    Run play(int seed, int most) {
        int[] x = {seed};
        Run run = new Run(this);
        while (run.end == 0 && run.ticks < most) {
            run.tick((c, n) -> {
                if (n == 0 || n == 100) {
                    return n == 100;
                }
                x[0] = 1103515245 * x[0] + 12345;
                return (x[0] >>> 16) % 100 < n;
            });
        }
        return run;
    }

    static final class Odds {
        long over;
        long knocked;
        long late;
        long ticks;
        long harm;
        long all = 1;
        final long[] blame = new long[8];
        final long[] stops = new long[8];
    }

    /** Each car has its mind made up ahead of the run, in all ways; a way that a car never comes to counts once. */
    Odds odds() {
        Odds sum = new Odds();
        for (int i = 0; i < cars.size(); i++) {
            sum.all *= 100;
        }
        for (int minds = 0; minds < 1 << cars.size(); minds++) {
            int bits = minds;
            Run run = new Run(this);
            while (run.end == 0) {
                run.tick((c, n) -> (bits >> c.number & 1) != 0);
            }
            long parts = 1;
            for (Car c : run.cars) {
                boolean stop = (bits >> c.number & 1) != 0;
                if (c.branched) {
                    parts *= stop ? c.by : 100 - c.by;
                } else {
                    parts *= stop ? 0 : 100;
                }
            }
            sum.over += run.end == 1 ? parts : 0;
            sum.knocked += run.end == 2 ? parts : 0;
            sum.late += run.end == 3 ? parts : 0;
            sum.ticks += parts * run.ticks;
            sum.harm += parts * run.harm;
            for (Car c : run.cars) {
                sum.blame[c.number] += run.by == c.number ? parts : 0;
                sum.stops[c.number] += c.mind == 2 ? parts : 0;
            }
        }
        return sum;
    }
}
