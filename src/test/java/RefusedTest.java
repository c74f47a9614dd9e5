import java.util.ArrayList;
import java.util.List;

/**
 * Each refused call, on an object that has all and on a new one: its code, that it is counted once and where status() says,
 * and that all else stays, by a twin that was not asked.
 */
public final class RefusedTest {
    private static final int MIN = Integer.MIN_VALUE;
    private static final int MAX = Integer.MAX_VALUE;
    /** How status() counts them. */
    private static final int BY_2 = 0;
    private static final int BY_3 = 1;
    private static final int BY_5 = 2;
    private static final int BY_6 = 3;
    private static final int BY_7 = 4;
    private static final int BY_TEXT = 5;
    /** An object is used for at most so many calls. */
    private static final int CALLS_MOST = 512;

    /** An object, and how often it was called. */
    private static final class Called {
        final FootOut object = new FootOut();
        int calls;

        FootOut call() {
            calls++;
            return object;
        }
    }

    interface Call {
        long on(FootOut x);
    }

    interface Built {
        Called make();
    }

    public static void main(String[] args) {
        ofTheFull();
        ofTheNew();
        ofTexts();
        firstTold();
        Check.end();
    }

    private static void text(Called x, int what, String text) {
        byte[] bytes = text.getBytes(java.nio.charset.StandardCharsets.ISO_8859_1);
        for (int i = 0; i < bytes.length; i += 20) {
            x.calls++;
        }
        Check.feedBytes(x.object, bytes);
        x.call().text(what, bytes.length);
    }

    private static Called made() {
        return new Called();
    }

    /** Eight CARS, twelve lines of THE LAW, twelve PLACES, all MEASURES and PAY, ROWS 0 to 2, IMAGE 0, a FAULT, bytes on THE TAPE. */
    private static Called full() {
        Called x = made();
        text(x, 0, "lanes 4;pram;foot;");
        text(x, 1, "stop 9 if near 3;");
        x.call().image(0);
        StringBuilder scene = new StringBuilder("lanes 4;line 2;gap 4;waits 9;sight 50;eye;hump;");
        for (int c = 0; c < 8; c++) {
            scene.append("car ").append(c % 4).append(" at ").append(10 + 7 * c).append(" pace ").append(1 + c).append(" kind ").append(c % 4).append(";");
        }
        text(x, 0, scene.toString());
        StringBuilder law = new StringBuilder();
        for (int k = 0; k < 12; k++) {
            law.append("stop ").append(5 * k + 20).append(" if near ").append(9 + 5 * k).append(";");
        }
        text(x, 1, law.toString());
        for (int p = 0; p < 12; p++) {
            x.call().place(p % 3 == 0, 10 + p, 20 + p, p, 12 - p / 2);
            x.call().behind(p, 30 + p);
        }
        for (int m = 0; m < 4; m++) {
            x.call().measure(m, 3 + m, 90 - 7 * m);
        }
        for (int i = 0; i < 20; i++) {
            x.call().pay(i / 10, i / 5 % 2, i % 5, 3 * i - 30);
        }
        for (int row = 0; row < 3; row++) {
            x.call().numbers(row, row, 3 + row);
            for (int i = 0; i < 3 + row; i++) {
                x.call().write(row, i, 10 * row + i + 1);
            }
        }
        x.call().write(2, 4, 1000001);
        text(x, 1, "stop 101");
        x.call().feed(0x6761703b, 0x3f676170, 0x20373b67, 0x61702038, 0x3b676170);
        return x;
    }

    /** As full(), but with room for a PLACE and bytes. */
    private static Called half() {
        Called x = made();
        text(x, 0, "lanes 2;car 1 at 20 pace 3 kind 1;car 0 at 9 pace 2 kind 2;old;");
        text(x, 1, "stop 30 if lane 0;stop 60 if lane 1;");
        for (int p = 0; p < 3; p++) {
            x.call().place(p == 0, 10, 20, 3 + p, 2);
            x.call().behind(p, 4);
        }
        x.call().measure(0, 2, 50);
        x.call().pay(0, 1, 2, 5);
        x.call().image(1);
        x.call().numbers(0, 3, 40);
        x.call().write(0, 39, 9999);
        x.call().numbers(3, 1, 0);
        x.call().numbers(1, 1, 2);
        x.call().write(1, 1, -1);
        x.call().write(1, 0, -1);
        return x;
    }

    /** THE TAPE has its 400 bytes. */
    private static Called fullTape() {
        Called x = made();
        for (int i = 0; i < 20; i++) {
            x.call().feed(0x6761703b, 0x3f676170, 0x20373b67, 0x61702038, 0x3b20200a + i);
        }
        return x;
    }

    /** All that may be asked: what changes nothing first, then what tells by changing. */
    private static List<Long> answers(Called x) {
        List<Long> all = new ArrayList<>();
        counts(x, all);
        all.add((long) x.call().fault(0));
        all.add((long) x.call().fault(1));
        scene(x, all);
        places(x, all);
        for (int i = 0; i < 20; i++) {
            all.add((long) x.call().pay(i / 10, i / 5 % 2, i % 5, 0));
        }
        rows(x, all);
        all.add((long) x.call().text(0, x.call().count(9)));
        all.add((long) x.call().fault(0));
        all.add((long) x.call().fault(1));
        all.add((long) x.call().count(4));
        for (int image = 0; image < 2; image++) {
            all.add((long) x.call().restore(image));
            counts(x, all);
            all.add((long) x.call().pay(0, 1, 2, 0));
            all.add((long) x.call().worst(1, 1));
            all.add(x.call().odds(0));
        }
        Check.isTrue("no more calls than the document lets: " + x.calls, x.calls <= CALLS_MOST);
        return all;
    }

    private static void counts(Called x, List<Long> all) {
        for (int what = 0; what < 11; what++) {
            all.add((long) x.call().count(what));
        }
    }

    private static void scene(Called x, List<Long> all) {
        int cars = x.call().count(1);
        for (int c = 0; c < cars; c++) {
            for (int what = 0; what < 4; what++) {
                all.add((long) x.call().car(c, what));
            }
            all.add((long) x.call().chance(c));
        }
        for (int what = 0; what < 5; what++) {
            all.add(x.call().odds(what));
            all.add((long) x.call().run(5, what));
        }
        int lines = x.call().count(7);
        for (int k = 0; k < lines; k++) {
            all.add(x.call().repeals(k));
        }
    }

    private static void places(Called x, List<Long> all) {
        int places = x.call().count(8);
        for (int p = 0; p < places; p++) {
            for (int what = 0; what < 6; what++) {
                all.add((long) x.call().at(p, what));
            }
            all.add((long) x.call().spent(77, p));
        }
        all.add((long) x.call().spent(77, -1));
        all.add((long) x.call().spent(999, 20));
    }

    private static void rows(Called x, List<Long> all) {
        for (int row = 0; row < 4; row++) {
            all.add((long) x.call().filled(row, 0));
            all.add((long) x.call().filled(row, 2));
            all.add((long) x.call().clumps(row, 10, 3, 0));
            all.add((long) x.call().slip(row, 0));
            for (int n : new int[] {0, 2, 3, 4, 5, 39, 40}) {
                all.add(x.call().write(row, n, 0x0123456789abcdefL));
            }
        }
    }

    private static int[] statuses(Called x) {
        int[] all = new int[6];
        for (int what = 0; what < 6; what++) {
            all[what] = x.call().status(what);
        }
        return all;
    }

    private static void refused(Built built, String name, long code, int by, Call call) {
        Called x = built.make();
        Called y = built.make();
        int[] before = statuses(x);
        Check.due(name, call.on(x.call()), code);
        int[] behind = statuses(x);
        for (int what = 0; what < 6; what++) {
            Check.due("status(" + what + ") behind " + name, behind[what], before[what] + (what == by ? 1 : 0));
        }
        Check.isTrue("all is as it was behind " + name, answers(x).equals(answers(y)));
    }

    private static void full(String name, long code, int by, Call call) {
        refused(RefusedTest::full, name, code, by, call);
    }

    private static void half(String name, long code, int by, Call call) {
        refused(RefusedTest::half, name, code, by, call);
    }

    private static void empty(String name, long code, int by, Call call) {
        refused(RefusedTest::made, name + " of a new object", code, by, call);
    }

    private static void ofTheFull() {
        textsOfFull();
        ticksOfFull();
        placesOfFull();
        sumsOfFull();
        rowsOfFull();
    }

    private static void textsOfFull() {
        for (int bad : new int[] {MIN, -1, 2, MAX}) {
            full("text what " + bad, -2, BY_2, x -> x.text(bad, 20));
        }
        for (int bad : new int[] {MIN, -1, 21, MAX}) {
            full("text 0 n " + bad, -3, BY_3, x -> x.text(0, bad));
            full("text 1 n " + bad, -3, BY_3, x -> x.text(1, bad));
        }
        refused(RefusedTest::fullTape, "feed", -5, BY_5, x -> x.feed(1, 2, 3, 4, 5));
        refused(RefusedTest::fullTape, "text n 401", -3, BY_3, x -> x.text(0, 401));
        for (int bad : new int[] {MIN, -1, 8, MAX}) {
            full("car " + bad, -2, BY_2, x -> x.car(bad, 0));
            full("chance " + bad, -2, BY_2, x -> x.chance(bad));
            full("can " + bad, -2, BY_2, x -> x.can(bad));
            full("trait on " + bad, -2, BY_2, x -> x.trait(bad, true));
            full("trait off " + bad, -2, BY_2, x -> x.trait(bad, false));
        }
        for (int bad : new int[] {MIN, -1, 4, MAX}) {
            full("car what " + bad, -2, BY_2, x -> x.car(7, bad));
            full("set what " + bad, -2, BY_2, x -> x.set(bad, 1));
        }
        int[][] bounds = {{0, 30}, {0, 20}, {0, 60}, {1, 200}};
        for (int what = 0; what < 4; what++) {
            int w = what;
            for (int bad : new int[] {MIN, bounds[w][0] - 1, bounds[w][1] + 1, MAX}) {
                full("set " + w + " to " + bad, -3, BY_3, x -> x.set(w, bad));
            }
        }
    }

    private static void ticksOfFull() {
        for (int bad : new int[] {MIN, -1, 6, MAX}) {
            full("run what " + bad, -2, BY_2, x -> x.run(1, bad));
            full("odds what " + bad, -2, BY_2, x -> x.odds(bad));
        }
        for (int bad : new int[] {MIN, -1, 100, MAX}) {
            full("watch t " + bad, -1000, BY_2, x -> x.watch(1, bad, 0, 0));
            full("stands t " + bad, -3, BY_3, x -> x.stands(1, bad));
        }
        for (int bad : new int[] {MIN, -1, 8, MAX}) {
            full("watch c " + bad, -1000, BY_2, x -> x.watch(1, 1, bad, 0));
            full("helps " + bad, -2, BY_2, x -> x.helps(bad));
            full("blame c " + bad, -2, BY_2, x -> x.blame(bad, 0));
            full("absent " + bad, -2, BY_2, x -> x.absent(bad));
        }
        for (int bad : new int[] {MIN, -1, 4, MAX}) {
            full("watch what " + bad, -1000, BY_2, x -> x.watch(1, 1, 0, bad));
            full("best " + bad, -3, BY_3, x -> x.best(bad));
        }
        for (int bad : new int[] {MIN, -1, 0, 6, MAX}) {
            full("tries how " + bad, -2, BY_2, x -> x.tries(1, 1, bad));
        }
        for (int bad : new int[] {MIN, -1, 0, 61, MAX}) {
            full("tries n " + bad, -3, BY_3, x -> x.tries(1, bad, 1));
        }
        for (int bad : new int[] {MIN, -1, 1001, MAX}) {
            full("back " + bad, -3, BY_3, x -> x.back(bad));
        }
        for (int bad : new int[] {MIN, -1, 2, MAX}) {
            full("wise " + bad, -2, BY_2, x -> x.wise(bad));
            full("blame what " + bad, -2, BY_2, x -> x.blame(0, bad));
            full("mean " + bad, -2, BY_2, x -> x.mean(bad));
        }
        for (int bad : new int[] {MIN, -1, 12, MAX}) {
            full("repeals " + bad, -2, BY_2, x -> x.repeals(bad));
        }
    }

    private static void placesOfFull() {
        full("place", -5, BY_5, x -> x.place(true, 1, 1, 1, 1));
        for (int bad : new int[] {MIN, -1, 301, MAX}) {
            half("place old " + bad, -3, BY_3, x -> x.place(true, bad, 1, 0, 0));
            half("place others " + bad, -3, BY_3, x -> x.place(true, 1, bad, 0, 0));
        }
        for (int bad : new int[] {MIN, -1, 8, MAX}) {
            half("place hurtOld " + bad, -3, BY_3, x -> x.place(true, 7, 300, bad, 0));
            half("place hurtOthers " + bad, -3, BY_3, x -> x.place(true, 300, 7, 0, bad));
        }
        for (int bad : new int[] {MIN, -1, 12, MAX}) {
            full("behind p " + bad, -2, BY_2, x -> x.behind(bad, 1));
            full("at p " + bad, -2, BY_2, x -> x.at(bad, 1));
        }
        for (int bad : new int[] {MIN, -1, 601, MAX}) {
            full("behind " + bad, -3, BY_3, x -> x.behind(3, bad));
        }
        for (int bad : new int[] {MIN, -1, 6, MAX}) {
            full("at what " + bad, -2, BY_2, x -> x.at(3, bad));
        }
        for (int bad : new int[] {MIN, -1, 2, MAX}) {
            full("rate painted " + bad, -2, BY_2, x -> x.rate(true, bad));
            full("rate bare " + bad, -2, BY_2, x -> x.rate(false, bad));
        }
        for (int bad : new int[] {MIN, -1, 13, MAX}) {
            full("worst k " + bad, -1000000, BY_2, x -> x.worst(bad, 0));
        }
        for (int bad : new int[] {MIN, -1, 4, MAX}) {
            full("worst what " + bad, -1000000, BY_2, x -> x.worst(2, bad));
            full("measure " + bad, -2, BY_2, x -> x.measure(bad, 1, 1));
        }
        full("worst 7, 2", -1000000, BY_2, x -> x.worst(7, 2));
        full("worst 7, 3", -1000000, BY_2, x -> x.worst(7, 3));
        full("worst 12, 2", -1000000, BY_2, x -> x.worst(12, 2));
        half("worst 2, 3 of 3", -1000000, BY_2, x -> x.worst(2, 3));
        for (int bad : new int[] {MIN, -1, 0, 100, MAX}) {
            full("measure cost " + bad, -3, BY_3, x -> x.measure(1, bad, 1));
        }
        for (int bad : new int[] {MIN, -1, 101, MAX}) {
            full("measure left " + bad, -3, BY_3, x -> x.measure(1, 1, bad));
        }
        for (int bad : new int[] {MIN, -2, 12, 19, 21, MAX}) {
            full("spent what " + bad, -2, BY_2, x -> x.spent(9, bad));
        }
        for (int bad : new int[] {MIN, -1, 1000, MAX}) {
            full("spent coin " + bad, -3, BY_3, x -> x.spent(bad, -1));
            full("spent coin " + bad + " at 0", -3, BY_3, x -> x.spent(bad, 0));
        }
    }

    private static void sumsOfFull() {
        for (int bad : new int[] {MIN, -1, 1001, MAX}) {
            full("fine now " + bad, -3, BY_3, x -> x.fine(bad, 1, 1, 1));
            full("fine base " + bad, -3, BY_3, x -> x.fine(1, bad, 1, 1));
            full("until now " + bad, -3, BY_3, x -> x.until(bad, 1, 1, 1));
            full("until base " + bad, -3, BY_3, x -> x.until(1, bad, 1, 1));
            full("until near " + bad, -3, BY_3, x -> x.until(1, 1, 1, bad));
            full("lot p " + bad, -3, BY_3, x -> x.lot(bad, 1));
            full("lot q " + bad, -3, BY_3, x -> x.lot(1, bad));
        }
        for (int bad : new int[] {MIN, -1, 101, MAX}) {
            full("fine d " + bad, -3, BY_3, x -> x.fine(1, 1, bad, 1));
            full("until d " + bad, -3, BY_3, x -> x.until(1, 1, bad, 1));
            full("thanks t " + bad, -3, BY_3, x -> x.thanks(1, bad, 1, 1, 1));
            full("thanks a " + bad, -3, BY_3, x -> x.thanks(1, 1, bad, 1, 1));
            full("thanks b " + bad, -3, BY_3, x -> x.thanks(1, 1, 1, bad, 1));
        }
        for (int bad : new int[] {MIN, -1, 61, MAX}) {
            full("fine months " + bad, -3, BY_3, x -> x.fine(1, 1, 1, bad));
        }
        for (int bad : new int[] {MIN, -1, 1000001, MAX}) {
            full("thanks s " + bad, -3, BY_3, x -> x.thanks(bad, 1, 1, 1, 1));
        }
        for (int bad : new int[] {MIN, -1, 100, MAX}) {
            full("thanks n " + bad, -3, BY_3, x -> x.thanks(1, 1, 1, 1, bad));
        }
        for (int bad : new int[] {MIN, 0, 301, MAX}) {
            full("shown n " + bad, -3, BY_3, x -> x.shown(0, bad, 0, 1));
            full("shown m " + bad, -3, BY_3, x -> x.shown(0, 1, 0, bad));
        }
        for (int bad : new int[] {MIN, -1, 6, MAX}) {
            full("shown a " + bad, -3, BY_3, x -> x.shown(bad, 5, 0, 300));
            full("shown b " + bad, -3, BY_3, x -> x.shown(0, 300, bad, 5));
        }
        for (int bad : new int[] {MIN, -1, 1000, MAX}) {
            full("lamp cars " + bad, -3, BY_3, x -> x.lamp(bad, 1, 0));
            full("lamp walkers " + bad, -3, BY_3, x -> x.lamp(1, bad, 1));
        }
        for (int bad : new int[] {MIN, -1, 2, MAX}) {
            full("lamp what " + bad, -2, BY_2, x -> x.lamp(1, 1, bad));
            full("rests what " + bad, -2, BY_2, x -> x.rests(1, 1, bad));
            full("pay who " + bad, -1000, BY_2, x -> x.pay(bad, 0, 0, 9));
            full("pay doing " + bad, -1000, BY_2, x -> x.pay(0, bad, 0, 9));
        }
        for (int bad : new int[] {MIN, -1, 5, MAX}) {
            full("rests k " + bad, -3, BY_3, x -> x.rests(bad, 1, 0));
            full("rests m " + bad, -3, BY_3, x -> x.rests(1, bad, 1));
            full("pay n " + bad, -1000, BY_2, x -> x.pay(0, 0, bad, 9));
        }
        for (int bad : new int[] {MIN, -100, 100, MAX}) {
            full("pay v " + bad, -1000, BY_2, x -> x.pay(0, 0, 0, bad));
        }
    }

    private static void rowsOfFull() {
        for (int bad : new int[] {MIN, -1, 4, MAX}) {
            full("clumps row " + bad, -2, BY_2, x -> x.clumps(bad, 5, 2, 0));
            full("filled row " + bad, -2, BY_2, x -> x.filled(bad, 0));
            full("slip row " + bad, -100, BY_2, x -> x.slip(bad, 0));
            full("slip other " + bad, -100, BY_2, x -> x.slip(0, bad));
            full("numbers row " + bad, -2, BY_2, x -> x.numbers(bad, 0, 1));
            full("numbers sort " + bad, -2, BY_2, x -> x.numbers(0, bad, 1));
            full("write row " + bad, -2, BY_2, x -> x.write(bad, 0, 1));
        }
        for (int bad : new int[] {MIN, -1, 3, MAX}) {
            full("clumps what " + bad, -2, BY_2, x -> x.clumps(0, 5, 2, bad));
            full("filled " + bad, -7, BY_7, x -> x.filled(0, bad));
            full("write " + bad, -7, BY_7, x -> x.write(0, bad, 9));
        }
        for (int bad : new int[] {MIN, -1, 0, 1, 1000, MAX}) {
            full("clumps c " + bad, -3, BY_3, x -> x.clumps(0, bad, 1, 0));
        }
        for (int bad : new int[] {MIN, -1, 0, 5, MAX}) {
            full("clumps g " + bad, -3, BY_3, x -> x.clumps(0, 5, bad, 0));
        }
        for (int bad : new int[] {MIN, -1, 41, MAX}) {
            full("numbers n " + bad, -3, BY_3, x -> x.numbers(0, 0, bad));
            full("numbers n " + bad + " of a MISSING one", -3, BY_3, x -> x.numbers(3, 0, bad));
        }
        full("clumps of a number", -3, BY_3, x -> x.clumps(2, 5, 2, 0));
        half("clumps of another", -3, BY_3, x -> x.clumps(1, 5, 2, 0));
        full("filled of a number", -3, BY_3, x -> x.filled(2, 0));
        full("slip of a number", -100, BY_2, x -> x.slip(2, 0));
        full("slip to a number", -100, BY_2, x -> x.slip(0, 2));
        full("clumps of a MISSING one", -6, BY_6, x -> x.clumps(3, 5, 2, 0));
        full("filled of a MISSING one", -6, BY_6, x -> x.filled(3, 0));
        full("write to a MISSING one", -6, BY_6, x -> x.write(3, 0, 9));
        full("slip of a MISSING one", -100, BY_2, x -> x.slip(3, 0));
        full("slip to a MISSING one", -100, BY_2, x -> x.slip(0, 3));
        half("filled of an empty one", -7, BY_7, x -> x.filled(3, 0));
        half("write to an empty one", -7, BY_7, x -> x.write(3, 0, 9));
        half("slip of an empty one", -100, BY_2, x -> x.slip(3, 0));
        half("slip to one of which none is there", -100, BY_2, x -> x.slip(0, 1));
        for (int bad : new int[] {MIN, -1, 2, MAX}) {
            full("image " + bad, -2, BY_2, x -> x.image(bad));
            full("restore " + bad, -2, BY_2, x -> x.restore(bad));
        }
        full("restore 1", -5, BY_5, x -> x.restore(1));
        half("restore 0", -5, BY_5, x -> x.restore(0));
    }

    private static void ofTheNew() {
        empty("text", -3, BY_3, x -> x.text(0, 1));
        empty("text", -3, BY_3, x -> x.text(1, 1));
        empty("car", -2, BY_2, x -> x.car(0, 0));
        empty("chance", -2, BY_2, x -> x.chance(0));
        empty("can", -2, BY_2, x -> x.can(0));
        empty("watch", -1000, BY_2, x -> x.watch(0, 0, 0, 0));
        empty("blame", -2, BY_2, x -> x.blame(0, 0));
        empty("repeals", -2, BY_2, x -> x.repeals(0));
        empty("absent", -2, BY_2, x -> x.absent(0));
        empty("behind", -2, BY_2, x -> x.behind(0, 0));
        empty("at", -2, BY_2, x -> x.at(0, 0));
        empty("worst", -1000000, BY_2, x -> x.worst(1, 0));
        empty("spent", -2, BY_2, x -> x.spent(0, 0));
        for (int row = 0; row < 4; row++) {
            int r = row;
            empty("clumps", -6, BY_6, x -> x.clumps(r, 2, 1, 0));
            empty("filled", -6, BY_6, x -> x.filled(r, 0));
            empty("slip", -100, BY_2, x -> x.slip(r, r));
            empty("write", -6, BY_6, x -> x.write(r, 0, 0));
        }
        empty("restore", -5, BY_5, x -> x.restore(0));
        empty("restore", -5, BY_5, x -> x.restore(1));
    }

    /** A text with a FAULT empties THE TAPE and tells its FAULT; all else stays. */
    private static void ofTexts() {
        String[] scenes = {"gap 5;lanes 3;?", "old;lanes", "waits 1;sight 0;", "car 0 at 1 pace 1 kind 0;".repeat(9), "old;("};
        String[] laws = {"stop 5 if old;?", "stop 5 if old;stop", "stop 5 if old;stop 101", "stop 1 if old;".repeat(13), "stop 1 if ((((((((("};
        int[] sceneKinds = {1, 2, 3, 4, 2};
        for (int i = 0; i < 5; i++) {
            faulty(0, scenes[i], sceneKinds[i]);
            faulty(1, laws[i], i + 1);
        }
    }

    private static void faulty(int what, String text, int kind) {
        Called x = half();
        Called y = half();
        int[] before = statuses(x);
        text(y, what == 0 ? 1 : 0, "?");
        text(x, what, text);
        Check.due("the FAULT of " + text, x.call().fault(0), kind);
        Check.due("THE TAPE behind it", x.call().count(9), 0);
        text(x, what == 0 ? 1 : 0, "?");
        int[] behind = statuses(x);
        for (int by = 0; by < 6; by++) {
            Check.due("status(" + by + ") behind " + text, behind[by], before[by] + (by == BY_TEXT ? 2 : 0));
        }
        Check.isTrue("all is as it was behind " + text, answers(x).equals(answers(y)));
    }

    /** Of several codes that which the call tells first. */
    private static void firstTold() {
        full("text: -2, -3", -2, BY_2, x -> x.text(2, 21));
        full("set: -2, -3", -2, BY_2, x -> x.set(4, -1));
        full("tries: -2, -3", -2, BY_2, x -> x.tries(1, 61, 6));
        full("place: -5, -3", -5, BY_5, x -> x.place(true, 301, 1, 1, 1));
        full("behind: -2, -3", -2, BY_2, x -> x.behind(12, 601));
        full("measure: -2, -3", -2, BY_2, x -> x.measure(4, 0, 101));
        full("spent: -2, -3", -2, BY_2, x -> x.spent(1000, 12));
        full("clumps: -2, -6", -2, BY_2, x -> x.clumps(3, 5, 2, 3));
        full("clumps: -2, -3", -2, BY_2, x -> x.clumps(0, 1, 0, 3));
        full("clumps: -6, -3", -6, BY_6, x -> x.clumps(3, 1, 0, 0));
        full("lamp: -2, -3", -2, BY_2, x -> x.lamp(1000, -1, 2));
        full("rests: -2, -3", -2, BY_2, x -> x.rests(5, -1, 2));
        full("filled: -6, -7", -6, BY_6, x -> x.filled(3, 99));
        full("filled: -7, -3", -7, BY_7, x -> x.filled(2, 5));
        half("filled: -7, none is there", -7, BY_7, x -> x.filled(1, 2));
        full("numbers: -2, -3", -2, BY_2, x -> x.numbers(0, 4, 41));
        full("numbers: -2, -3", -2, BY_2, x -> x.numbers(4, 0, 41));
        full("write: -6, -7", -6, BY_6, x -> x.write(3, 99, 1));
        empty("text: -2, -3", -2, BY_2, x -> x.text(-1, -1));
        empty("spent: -2, -3", -2, BY_2, x -> x.spent(-1, 0));
    }
}
