/** Each promise by itself: ordinary calls, the edges that the document names, and calls that are refused. */
public final class PromiseTest {
    public static void main(String[] args) {
        newObject();
        feed();
        text();
        faultsOfScenes();
        faultsOfLaws();
        fault();
        fullTape();
        car();
        trait();
        set();
        chance();
        can();
        run();
        watchAndStands();
        tries();
        odds();
        helpsAndBest();
        back();
        wise();
        blameAndMean();
        repealsAndAbsent();
        margin();
        hidden();
        place();
        rateAndParted();
        worst();
        ranked();
        spent();
        fineAndUntil();
        lotAndShown();
        clumps();
        lamp();
        rests();
        thanks();
        filled();
        slip();
        numbersAndWrite();
        images();
        status();
        Check.end();
    }

    private static void due(String call, long got, long want) {
        Check.due(call, got, want);
    }

    /** Promises 1, 49. */
    private static void newObject() {
        FootOut x = new FootOut();
        int[] counts = {1, 0, 0, 0, 3, 20, 40, 0, 0, 0, 0, -1};
        for (int i = 0; i < counts.length; i++) {
            due("new count(" + i + ")", x.count(i), counts[i]);
        }
        due("new count(-1)", x.count(-1), -1);
        for (int i = 0; i < 6; i++) {
            due("new status(" + i + ")", x.status(i), 0);
        }
        due("new parted()", x.parted(), 0);
        due("new rate(true, 0)", x.rate(true, 0), 0);
        due("new rate(true, 1)", x.rate(true, 1), 1);
        due("new ranked(0)", x.ranked(0), -1);
        due("new spent(999, -1)", x.spent(999, -1), 0);
        due("new spent(999, 20)", x.spent(999, 20), 0);
        due("new restore(0)", x.restore(0), -5);
        due("new write(0, 0, 0)", x.write(0, 0, 0), -6);
        Check.scene(x, "lanes 3;sight 7;waits 8;gap 9;line 6;old;paint;car 2 at 1 pace 1 kind 0;");
        Check.law(x, "stop 1 if old;stop 2 if in;");
        x.feed(0, 0, 0, 0, 0);
        x.place(true, 1, 1, 1, 1);
        int[] full = {3, 1, 129, 6, 9, 8, 7, 2, 1, 20, 8};
        for (int i = 0; i < full.length; i++) {
            due("count(" + i + ")", x.count(i), full[i]);
        }
        due("NONE", FootOut.NONE, -1);
    }

    /** Promise 2. */
    private static void feed() {
        FootOut x = new FootOut();
        for (int i = 1; i <= 20; i++) {
            due("feed", x.feed(-1, 0, 7, -9, 5), 20 * i);
        }
        due("a 21st feed", x.feed(0, 0, 0, 0, 0), -5);
        due("count(9)", x.count(9), 400);
        due("status(2)", x.status(2), 1);
        FootOut y = new FootOut();
        due("feed", y.feed('g' << 24 | 'a' << 16 | 'p' << 8 | ' ', '1' << 24 | ';' << 16, 0, 0, 0), 20);
        due("text(0, 6)", y.text(0, 6), 1);
        due("count(4)", y.count(4), 1);
    }

    /** Promise 3. */
    private static void text() {
        FootOut x = new FootOut();
        due("blanks alone", Check.scene(x, " \n "), 0);
        due("no blanks", Check.scene(x, "lanes2;car1at5pace2kind3;gap007;"), 3);
        due("its lane", x.car(0, 0), 1);
        due("its gap", x.count(4), 7);
        due("blanks of both sorts", Check.scene(x, "\nlanes\n 4 ;\n\nold\n;\n"), 2);
        due("cars are gone", x.count(1), 0);
        due("later ones count", Check.scene(x, "lanes 1;lanes 4;gap 1;gap 2;line 3;line 0;waits 1;waits 60;sight 1;sight 200;"), 10);
        due("lanes", x.count(0), 4);
        due("gap", x.count(4), 2);
        due("line", x.count(3), 0);
        due("waits", x.count(5), 60);
        due("sight", x.count(6), 200);
        x.trait(3, true);
        x.set(1, 11);
        due("a fault", Check.scene(x, "gap 5;foot;eye"), -32);
        due("what there was stays", x.count(4), 11);
        due("traits stay", x.count(2), 8);
        due("lines stay", x.count(10), 10);
        due("the tape is empty", x.count(9), 0);
        due("a new scene", Check.scene(x, ""), 0);
        due("gap as without", x.count(4), 3);
        due("traits as without", x.count(2), 0);
        due("line as without", x.count(3), 0);
        due("waits as without", x.count(5), 20);
        due("sight as without", x.count(6), 40);
        due("lanes as without", x.count(0), 1);
        x.feed(0x6f6c643b, 0x6f6c643b, 0x20202020, 0x20202020, 0x20202020);
        due("what 2", x.text(2, 4), -2);
        due("what -1", x.text(-1, -1), -2);
        due("n -1", x.text(0, -1), -3);
        due("n 21", x.text(0, 21), -3);
        due("the tape stays", x.count(9), 20);
        due("all of it", x.text(0, 20), 2);
        due("the rest is gone", x.count(9), 0);
        due("status(0)", x.status(0), 2);
        due("status(1)", x.status(1), 2);
        due("a law", Check.law(x, "stop 0 if old;stop 100 if not(in);"), 2);
        due("a law's fault", Check.law(x, "stop 5 if"), -32);
        due("the law stays", x.count(7), 2);
        due("the scene stays", x.count(2), 1);
    }

    private static void faulty(int what, String text, int kind, int place) {
        FootOut x = new FootOut();
        due("'" + text + "'", Check.read(x, what, text), -30 - kind);
        due("fault(0) of '" + text + "'", x.fault(0), kind);
        due("fault(1) of '" + text + "'", x.fault(1), place);
        due("status(5) of '" + text + "'", x.status(5), 1);
    }

    /** Promises 3 and 4, by the FAULTS of Terms. */
    private static void faultsOfScenes() {
        String car = "car 0 at 1 pace 1 kind 0;";
        faulty(0, "Old;", 1, 0);
        faulty(0, "old;\t", 1, 4);
        faulty(0, "old" + (char) 0 + ";", 1, 3);
        faulty(0, "old;" + (char) 233, 1, 4);
        faulty(0, "gap 0001;", 1, 4);
        faulty(0, "gap 12345", 1, 4);
        faulty(0, "z;", 2, 0);
        faulty(0, "`;", 1, 0);
        faulty(0, "{;", 1, 0);
        faulty(0, "gap /;", 1, 4);
        faulty(0, "gap :;", 1, 4);
        faulty(0, ";", 2, 0);
        faulty(0, "old;;", 2, 4);
        faulty(0, "5;", 2, 0);
        faulty(0, "old pram;", 2, 4);
        faulty(0, "oldpram;", 2, 0);
        faulty(0, "gap;", 2, 3);
        faulty(0, "gap old;", 2, 4);
        faulty(0, "gap 5 5;", 2, 6);
        faulty(0, "gap 5  ", 2, 7);
        faulty(0, "gap", 2, 3);
        faulty(0, "near 5;", 2, 0);
        faulty(0, "(old);", 2, 0);
        faulty(0, "car 0 pace 1 kind 0;", 2, 6);
        faulty(0, "car 0 at 5 kind 0;", 2, 11);
        faulty(0, "lanes 0;", 3, 6);
        faulty(0, "lanes 4;car 4 at 1 pace 1 kind 0;", 3, 12);
        faulty(0, "lanes 4;car 3 at 1 pace 1 kind 0;lanes 3;", 3, 39);
        faulty(0, "car 0 at 201 pace 1 kind 0;", 3, 9);
        faulty(0, "car 0 at 1 pace 0 kind 0;", 3, 16);
        faulty(0, "car 0 at 1 pace 1 kind 4", 3, 23);
        faulty(0, "line 31;", 3, 5);
        faulty(0, "gap 21;", 3, 4);
        faulty(0, "waits 61;", 3, 6);
        faulty(0, "sight 201;", 3, 6);
        faulty(0, car.repeat(8) + "car", 4, 200);
        faulty(0, car.repeat(8) + "old,", 1, 203);
        FootOut x = new FootOut();
        due("eight cars", Check.scene(x, car.repeat(8) + "lanes 4;lanes 1;"), 10);
        due("the edges", Check.scene(x, "lanes 4;car 3 at 200 pace 9 kind 3;line 30;gap 20;waits 60;sight 200;"), 6);
        due("the edges", Check.scene(x, "lanes 1;car 0 at 1 pace 1 kind 0;line 0;gap 0;waits 0;sight 1;"), 6);
    }

    private static void faultsOfLaws() {
        String line = "stop 1 if old;";
        faulty(1, "old;", 2, 0);
        faulty(1, "stop if old;", 2, 5);
        faulty(1, "stop 101 if old;", 3, 5);
        faulty(1, "stop 1 if old", 2, 13);
        faulty(1, "stop 1 if old pram;", 2, 14);
        faulty(1, "stop 1 if old and;", 2, 17);
        faulty(1, "stop 1 if or old;", 2, 10);
        faulty(1, "stop 1 if ();", 2, 11);
        faulty(1, "stop 1 if (old));", 2, 15);
        faulty(1, "stop 1 if not;", 2, 13);
        faulty(1, "stop 1 if near;", 2, 14);
        faulty(1, "stop 1 if near 1000;", 1, 15);
        faulty(1, "stop 1 if lanes;", 2, 10);
        faulty(1, "stop 1 if old 5;", 2, 14);
        faulty(1, "stop 1 if old & pram;", 1, 14);
        faulty(1, line.repeat(12) + "stop", 4, 168);
        faulty(1, line.repeat(12) + "old", 2, 168);
        faulty(1, "stop 1 if " + "(".repeat(9), 5, 18);
        faulty(1, "stop 1 if " + "(".repeat(4) + "not not not not (old", 5, 30);
        faulty(1, "stop 1 if " + "(".repeat(8), 2, 18);
        faulty(1, "stop 1 if old " + "(".repeat(9), 2, 14);
        FootOut x = new FootOut();
        due("twelve lines", Check.law(x, line.repeat(12)), 12);
        due("eight open", Check.law(x, "stop 1 if ((((not not not not old))));"), 1);
        due("eight open twice", Check.law(x, "stop 1 if ((((((((old)))))))) and not (((((((old))))))) or ((((((((in))))))));"), 1);
        due("not closes by itself", Check.law(x, "stop 1 if not old and not old and not old and not old and not old and not old and not old and not old and not old;"), 1);
        due("the edges", Check.law(x, "stop 0 if near 0;stop 100 if near 999 and fast 999 or lane 999 or kind 999;"), 2);
    }

    /** Promise 4. */
    private static void fault() {
        FootOut x = new FootOut();
        due("fault(0) at first", x.fault(0), 0);
        due("fault(1) at first", x.fault(1), -1);
        due("fault(2)", x.fault(2), -1);
        due("fault(-1)", x.fault(-1), -1);
        Check.scene(x, "old");
        x.text(7, 0);
        x.text(0, 99);
        due("fault(0) stays", x.fault(0), 2);
        due("fault(1) stays", x.fault(1), 3);
        Check.law(x, "");
        due("fault(0) of a sound text", x.fault(0), 0);
        due("fault(1) of a sound text", x.fault(1), -1);
        due("none is counted", x.status(0), 1);
    }

    /** A text may fill THE TAPE, and end within a word. */
    private static void fullTape() {
        String old = "old;".repeat(99);
        faulty(0, old + "line", 2, 400);
        faulty(0, old + "wait", 2, 396);
        faulty(0, old + "gap9", 2, 400);
        faulty(0, "old;".repeat(98) + "gap 9999", 1, 396);
        FootOut x = new FootOut();
        due("100 lines", Check.scene(x, old + "eye;"), 100);
    }

    /** Promise 5. */
    private static void car() {
        FootOut x = Check.with("lanes 3;car 2 at 150 pace 9 kind 3;car 0 at 1 pace 1 kind 0;hump;", "");
        int[] first = {2, 150, 9, 3};
        for (int what = 0; what < 4; what++) {
            due("car(0, " + what + ")", x.car(0, what), first[what]);
        }
        due("car(1, 1)", x.car(1, 1), 1);
        due("car(2, 0)", x.car(2, 0), -2);
        due("car(-1, 0)", x.car(-1, 0), -2);
        due("car(0, 4)", x.car(0, 4), -2);
        due("car(0, -1)", x.car(0, -1), -2);
        due("status(0)", x.status(0), 4);
    }

    /** Promise 6. */
    private static void trait() {
        FootOut x = Check.with("pram;", "stop 7 if paint;");
        due("trait(1, true)", x.trait(1, true), 1);
        due("trait(1, false)", x.trait(1, false), 1);
        due("trait(1, false)", x.trait(1, false), 0);
        due("trait(7, true)", x.trait(7, true), 0);
        due("count(2)", x.count(2), 128);
        due("count(10)", x.count(10), 1);
        due("trait(8, true)", x.trait(8, true), -2);
        due("trait(-1, true)", x.trait(-1, true), -2);
        due("count(2)", x.count(2), 128);
    }

    /** Promise 7. */
    private static void set() {
        FootOut x = new FootOut();
        int[] without = {0, 3, 20, 40};
        int[] least = {0, 0, 0, 1};
        int[] most = {30, 20, 60, 200};
        for (int what = 0; what < 4; what++) {
            due("set least", x.set(what, least[what]), without[what]);
            due("set most", x.set(what, most[what]), least[what]);
            due("below", x.set(what, least[what] - 1), -3);
            due("above", x.set(what, most[what] + 1), -3);
            due("count", x.count(3 + what), most[what]);
        }
        due("set(4, 0)", x.set(4, 0), -2);
        due("set(-1, 999)", x.set(-1, 999), -2);
        due("status(1)", x.status(1), 8);
    }

    /** Promise 8. */
    private static void chance() {
        FootOut x = Check.with("lanes 2;car 0 at 100 pace 9 kind 2;car 1 at 50 pace 3 kind 0;sight 10;line 30;",
                "stop 1 if ahead or beside or passed or in;stop 2 if old;stop 3 if not near 100 and fast 9;stop 4 if near 51;");
        due("chance(0)", x.chance(0), 3);
        due("chance(1)", x.chance(1), 4);
        x.trait(6, true);
        due("chance(0) with hump", x.chance(0), 0);
        x.trait(0, true);
        due("chance(0) with old", x.chance(0), 2);
        due("chance(2)", x.chance(2), -2);
        due("chance(-1)", x.chance(-1), -2);
        Check.law(x, "stop 10 if old or two and near 1;stop 20 if (old or two) and near 101 or lane 0;");
        due("and binds nearer than or", x.chance(1), 10);
        x.trait(0, false);
        due("the second line", x.chance(0), 20);
        due("none", x.chance(1), 0);
        Check.law(x, "stop 10 if not kind 2 and lane 1;stop 20 if not (kind 2 and lane 1);");
        due("not binds nearest", x.chance(1), 10);
        due("not of a TEST", x.chance(0), 20);
        for (int i = 0; i < 60; i++) {
            Check.law(x, "stop " + i + " if not lane 0 and (near 60 or near 70 or near 80) and not (kind 1 or kind 2);");
            due("law " + i + " of many", x.chance(1), i);
        }
    }

    /** Promise 9. */
    private static void can() {
        FootOut x = Check.with("car 0 at 36 pace 9 kind 0;car 0 at 35 pace 9 kind 0;car 0 at 1 pace 1 kind 0;", "");
        due("36 yards at 9", x.can(0), 1);
        due("35 yards at 9", x.can(1), 0);
        due("1 yard at 1", x.can(2), 1);
        x.set(0, 1);
        due("behind a line", x.can(0), 0);
        due("1 yard at 1, line 1", x.can(2), 1);
        x.set(0, 2);
        due("beyond the line", x.can(2), 0);
        x.trait(6, true);
        due("with hump", x.can(1), 1);
        due("can(3)", x.can(3), -2);
        due("can(-1)", x.can(-1), -2);
    }

    /** Promise 10. */
    private static void run() {
        FootOut x = Check.with("car 0 at 8 pace 4 kind 0;waits 1;gap 20;old;", "");
        int[] knocked = {2, 2, 32, 0, 0, 1};
        for (int what = 0; what < 6; what++) {
            due("knocked run(1, " + what + ")", x.run(1, what), knocked[what]);
        }
        x.set(2, 60);
        int[] over = {1, 4, 0, -1, 0, 2};
        for (int what = 0; what < 6; what++) {
            due("over run(1, " + what + ")", x.run(1, what), over[what]);
        }
        due("run(1, 6)", x.run(1, 6), -2);
        due("run(1, -1)", x.run(1, -1), -2);
        // In lane 1 cars come whenever she is behind lane 0, where nothing lets her go anyhow.
        FootOut y = Check.with("lanes 2;car 1 at 99 pace 1 kind 0;car 1 at 20 pace 1 kind 0;car 1 at 40 pace 1 kind 0;"
                + "car 1 at 60 pace 1 kind 0;car 1 at 80 pace 1 kind 0;car 1 at 100 pace 1 kind 0;gap 20;", "");
        int[] late = {3, 99, 0, -1, 0, 0};
        for (int what = 0; what < 6; what++) {
            due("late run(1, " + what + ")", y.run(1, what), late[what]);
        }
        // Seeds: 1103515245 x 1 + 12345 is 1103527590, by 65536 16838, modulo 100 is 38.
        FootOut z = Check.with("car 0 at 20 pace 1 kind 0;", "stop 39 if near 30;");
        due("38 is below 39", z.run(1, 4), 1);
        Check.law(z, "stop 38 if near 30;");
        due("38 is not below 38", z.run(1, 4), 0);
        // No DRAW for 0, 100 or one that can't: the third car has the first.
        FootOut d = Check.with("car 0 at 1 pace 9 kind 0;car 0 at 30 pace 1 kind 1;car 0 at 20 pace 1 kind 2;waits 0;",
                "stop 50 if kind 0;stop 100 if kind 1;stop 39 if kind 2;");
        due("which stop", d.run(1, 4), 6);
    }

    /** Promises 11, 12. */
    private static void watchAndStands() {
        FootOut x = Check.with("lanes 2;car 0 at 10 pace 4 kind 0;car 0 at 20 pace 9 kind 0;car 1 at 3 pace 5 kind 0;old;gap 0;line 3;",
                "stop 100 if near 11 and lane 0;");
        int[][] dist = {{10, 7, 5, 4}, {20, 11, 7, 6}, {3, -2, -2, -2}};
        int[] pace = {4, 3, 2, 1};
        int[] heldThen = {0, 0, 1, 1};
        for (int t = 0; t < 4; t++) {
            for (int c = 0; c < 3; c++) {
                due("watch dist " + c + " at " + t, x.watch(1, t, c, 0), dist[c][t]);
            }
            due("watch pace 0 at " + t, x.watch(1, t, 0, 1), pace[t]);
            due("watch pace 1 at " + t, x.watch(1, t, 1, 1), 9);
            due("watch held at " + t, x.watch(1, t, 1, 3), heldThen[t]);
            due("watch mind 0 at " + t, x.watch(1, t, 0, 2), t == 0 ? 0 : 2);
            due("watch mind 1 at " + t, x.watch(1, t, 1, 2), t == 0 ? 0 : 1);
        }
        int[] where = {0, 1, 10, 11, 20, 20, 20};
        for (int t = 0; t < where.length; t++) {
            due("stands at " + t, x.stands(1, t), where[t]);
        }
        due("run", x.run(1, 0), 1);
        due("stands at 99", x.stands(1, 99), 20);
        due("stands at 100", x.stands(1, 100), -3);
        due("stands at -1", x.stands(1, -1), -3);
        due("watch t 99", x.watch(1, 99, 0, 0), x.watch(1, 4, 0, 0));
        due("watch t 100", x.watch(1, 100, 0, 0), -1000);
        due("watch t -1", x.watch(1, -1, 0, 0), -1000);
        due("watch c 3", x.watch(1, 0, 3, 0), -1000);
        due("watch c -1", x.watch(1, 0, -1, 0), -1000);
        due("watch what 4", x.watch(1, 0, 0, 4), -1000);
        due("watch what -1", x.watch(1, 0, 0, -1), -1000);
        due("status(0)", x.status(0), 6);
        due("status(1)", x.status(1), 2);
        FootOut y = Check.with("lanes 2;car 1 at 6 pace 3 kind 0;gap 0;", "");
        due("she is knocked in lane 1", y.run(1, 0), 2);
        due("she lies in lane 1", y.stands(1, 99), 11);
        FootOut z = Check.with("car 0 at 200 pace 9 kind 0;hump;", "");
        due("a hump's pace", z.watch(1, 0, 0, 1), 4);
    }

    /** Promise 13. */
    private static void tries() {
        FootOut x = Check.with("car 0 at 12 pace 3 kind 0;gap 20;waits 3;", "stop 50 if near 30;");
        int over = 0;
        int harm = 0;
        int ticks = 0;
        for (int i = 0; i < 60; i++) {
            int seed = Integer.MAX_VALUE - 20 + i;
            over += x.run(seed, 0) == 1 ? 1 : 0;
            harm += x.run(seed, 2);
            ticks += x.run(seed, 1);
        }
        Check.isTrue("both ends come", over > 10 && over < 50);
        due("tries over", x.tries(Integer.MAX_VALUE - 20, 60, 1), over);
        due("tries knocked", x.tries(Integer.MAX_VALUE - 20, 60, 2), 60 - over);
        due("tries late", x.tries(Integer.MAX_VALUE - 20, 60, 3), 0);
        due("tries harm", x.tries(Integer.MAX_VALUE - 20, 60, 4), harm);
        due("harm is 9 each", harm, 9 * (60 - over));
        due("tries ticks", x.tries(Integer.MAX_VALUE - 20, 60, 5), ticks);
        due("one try", x.tries(1, 1, 5), x.run(1, 1));
        due("tries how 0", x.tries(0, 0, 0), -2);
        due("tries how 6", x.tries(0, 61, 6), -2);
        due("tries n 0", x.tries(0, 0, 1), -3);
        due("tries n 61", x.tries(0, 61, 1), -3);
    }

    /** Promise 14. */
    private static void odds() {
        FootOut x = Check.with("lanes 2;car 0 at 12 pace 3 kind 0;car 1 at 5 pace 9 kind 0;car 1 at 200 pace 1 kind 0;gap 0;waits 0;sight 20;",
                "stop 30 if lane 0;stop 60 if lane 1;");
        // She is past lane 0 behind a TICK and in lane 1 in the second: by then car 1 is gone, car 2 far.
        long[] due = {1000000, 0, 0, 2000000, 0, 1000000};
        for (int what = 0; what < 6; what++) {
            due("odds(" + what + ")", x.odds(what), due[what]);
        }
        due("car 1 can't stop", x.blame(1, 1), 0);
        due("car 0 stops with 30", x.blame(0, 1), 300000);
        FootOut e = Check.with("car 0 at 1 pace 1 kind 0;".repeat(8) + "old;gap 0;waits 0;", "stop 99 if near 2;");
        long all = 10000000000000000L;
        due("odds(5) of eight", e.odds(5), all);
        // If car 0 stops it holds the others; if not, it knocks her in TICK 1.
        due("car 0 stops", e.odds(0), all / 100 * 99);
        due("car 0 goes", e.odds(1), all / 100);
        due("harm of eight", e.odds(4), 2 * all / 100);
        due("ticks of eight", e.odds(3), all / 100 * 99 * 2 + all / 100);
        due("odds(6)", e.odds(6), -2);
        due("odds(-1)", e.odds(-1), -2);
        FootOut late = Check.with("lanes 2;car 1 at 99 pace 1 kind 0;car 1 at 20 pace 1 kind 0;car 1 at 40 pace 1 kind 0;"
                + "car 1 at 60 pace 1 kind 0;car 1 at 80 pace 1 kind 0;car 1 at 100 pace 1 kind 0;gap 20;", "");
        due("all late", late.odds(2), 1000000000000L);
        due("late ticks", late.odds(3), 99000000000000L);
        // The first car decides at once: now and then it stops, far off.
        Check.law(late, "stop 25 if not near 100;");
        late.set(3, 200);
        due("late by both ways", late.odds(2), 1000000000000L);
        late.set(1, 0);
        due("no more late", late.odds(2), 0);
        due("but over", late.odds(0), 1000000000000L);
        // Sums are made anew for a changed scene.
        FootOut again = Check.with("car 0 at 3 pace 3 kind 0;gap 0;waits 0;", "");
        due("knocked by it", again.blame(0, 0), 100);
        again.trait(6, true);
        due("still", again.blame(0, 0), 100);
        Check.scene(again, "car 0 at 9 pace 3 kind 0;gap 0;waits 0;");
        due("no more knocked by it", again.blame(0, 0), 0);
        due("nor knocked", again.odds(1), 0);
        due("nor harmed", again.odds(4), 0);
    }

    /** Promises 15, 16. */
    private static void helpsAndBest() {
        String scene = "car 0 at 12 pace 3 kind 0;gap 20;waits 3;foot;";
        String law = "stop 70 if eye;stop 30 if foot;";
        due("helps(3) first of all", Check.with(scene, law).helps(3), 40);
        due("best(1) first of all", Check.with(scene, law).best(1), 8);
        due("back(700) first of all", Check.with(scene, law).back(700), 0);
        due("wise(0) first of all", Check.with(scene, law).wise(0), 0);
        due("absent(0) first of all", Check.with(scene, law).absent(0), -70);
        due("repeals(1) first of all", Check.with(scene, law).repeals(1), -30);
        due("mean(1) first of all", Check.with(scene, law).mean(1), 10);
        FootOut x = Check.with(scene,
                "stop 90 if eye and two;stop 70 if eye;stop 60 if two;stop 30 if foot;");
        due("now", x.odds(0), 30);
        due("helps(2): without foot", x.helps(2), -30);
        due("helps(3): with eye", x.helps(3), 40);
        due("helps(4): with two", x.helps(4), 30);
        due("helps(1): pram", x.helps(1), 0);
        due("helps(8)", x.helps(8), -2);
        due("helps(-1)", x.helps(-1), -2);
        due("status(0)", x.status(0), 2);
        due("best(0)", x.best(0), 0);
        due("best(1): eye", x.best(1), 8);
        due("best(2): eye and two", x.best(2), 24);
        due("best(3): old or pram goes with them", x.best(3), 25);
        Check.law(x, "stop 90 if paint;stop 70 if lamp;");
        due("best(1): paint", x.best(1), 128);
        Check.law(x, "stop 70 if lamp;");
        due("best(1): lamp", x.best(1), 32);
        Check.law(x, "stop 90 if eye and two;stop 70 if eye;stop 60 if two;stop 30 if foot;");
        due("best(4)", x.best(4), -3);
        due("best(-1)", x.best(-1), -3);
        due("the traits stay", x.count(2), 4);
        due("now still", x.odds(0), 30);
    }

    /** Promise 17. */
    private static void back() {
        // With a LINE of 1 or more the car stops ahead of her; with 0 it comes to 0 at pace 1.
        FootOut x = Check.with("car 0 at 7 pace 4 kind 0;gap 0;waits 0;old;", "stop 90 if near 30;");
        due("back(1000)", x.back(1000), 0);
        FootOut y = Check.with("car 0 at 3 pace 3 kind 0;old;gap 0;waits 0;", "stop 90 if near 30;");
        due("a car that stops at 0 knocks her", y.odds(1), 100);
        due("with harm 1 doubled, or 9 doubled", y.odds(4), 90 * 2 + 10 * 18);
        due("back(999)", y.back(999), -1);
        FootOut z = Check.with("car 0 at 10 pace 4 kind 0;old;gap 0;waits 3;", "stop 90 if near 30;");
        due("back(-1)", z.back(-1), -3);
        due("back(1001)", z.back(1001), -3);
        due("the line stays", z.count(3), 0);
        FootOut e = Check.with("car 0 at 1 pace 1 kind 0;".repeat(8) + "old;gap 0;waits 0;", "stop 99 if near 2;");
        due("9 of a thousand", e.back(9), -1);
        due("10 of a thousand", e.back(10), 0);
        due("all may be", e.back(1000), 0);
        // Stopping at 2 car 0 hides car 1; with a LINE of 3 it can't stop, and both are gone ahead of her.
        FootOut f = Check.with("lanes 2;car 0 at 2 pace 1 kind 2;car 1 at 10 pace 5 kind 0;", "stop 100 if kind 2;");
        due("back(0)", f.back(0), 3);
        due("back(1000)", f.back(1000), 0);
        // With a LINE of 30 car 0 can't stop; car 1 stops as it sees that, and knocks her down in TICK 8 else.
        FootOut g = Check.with("lanes 4;car 0 at 29 pace 1 kind 0;car 3 at 66 pace 9 kind 0;old;gap 0;sight 200;",
                "stop 100 if lane 0;stop 100 if passed;");
        due("in TICK 8", g.run(1, 1), 8);
        due("she is knocked", g.run(1, 3), 1);
        due("back(0), the greatest LINE", g.back(0), 30);
    }

    /** Promise 18. */
    private static void wise() {
        // A car that comes by in TICK 4: GAP 3 lets her over in one TICK ahead of it, old ones need two.
        FootOut x = Check.with("car 0 at 12 pace 3 kind 0;old;gap 20;waits 3;", "");
        due("in TICK 4 she is in it", x.odds(0), 0);
        due("wise(0)", x.wise(0), 0);
        due("wise(1)", x.wise(1), 0);
        FootOut y = Check.with("car 0 at 3 pace 3 kind 0;gap 20;waits 0;", "");
        due("at once she is knocked", y.odds(1), 100);
        due("wise(0): one TICK", y.wise(0), 1);
        due("wise(1): no GAP helps", y.wise(1), 0);
        y.set(2, 60);
        y.set(1, 0);
        due("with GAP 0", y.odds(1), 100);
        due("wise(1): GAP 1", y.wise(1), 1);
        due("the gap stays", y.count(4), 0);
        due("the waits stay", y.count(5), 60);
        due("wise(2)", y.wise(2), -2);
        due("wise(-1)", y.wise(-1), -2);
    }

    /** Promises 19, 20. */
    private static void blameAndMean() {
        FootOut x = Check.with("car 0 at 3 pace 3 kind 0;car 0 at 2 pace 2 kind 0;waits 0;", "stop 50 if kind 0;");
        // Each can stop: 3 from 3 leaves 0 at pace 1; 2 from 2 leaves 1. Car 0 going on comes to 0 at once.
        due("car 0 knocks if it goes and none holds it", x.blame(0, 0), 2500);
        due("car 1 knocks else, if it goes", x.blame(1, 0), 2500);
        due("car 0 stops", x.blame(0, 1), 5000);
        due("car 1 stops", x.blame(1, 1), 5000);
        due("over", x.odds(0), 5000);
        due("mean(0)", x.mean(0), 1);
        due("mean(1)", x.mean(1), 1);
        due("blame(2, 0)", x.blame(2, 0), -2);
        due("blame(-1, 0)", x.blame(-1, 0), -2);
        due("blame(0, 2)", x.blame(0, 2), -2);
        due("mean(2)", x.mean(2), -2);
        due("mean(-1)", x.mean(-1), -2);
        due("status(0)", x.status(0), 5);
        FootOut y = Check.with("car 0 at 12 pace 3 kind 0;gap 20;", "stop 60 if near 99;");
        // 60 of 100 end behind a TICK, 40 behind five.
        due("mean above", y.mean(0), 13);
        due("mean below", y.mean(1), 5);
    }

    /** Promises 21, 22. */
    private static void repealsAndAbsent() {
        FootOut x = Check.with("car 0 at 12 pace 3 kind 0;gap 20;waits 3;", "stop 20 if near 30;stop 70 if near 40;");
        due("without line 0", x.repeals(0), 50);
        due("without line 1", x.repeals(1), 0);
        due("repeals(2)", x.repeals(2), -2);
        due("repeals(-1)", x.repeals(-1), -2);
        due("the law stays", x.count(7), 2);
        due("absent(0)", x.absent(0), -80);
        due("absent(1)", x.absent(1), -2);
        due("absent(-1)", x.absent(-1), -2);
        due("status(0)", x.status(0), 4);
        due("the car stays", x.count(1), 1);
        // Car 0 stops and holds car 1; without it car 1 knocks her.
        FootOut y = Check.with("car 0 at 4 pace 2 kind 0;car 0 at 6 pace 6 kind 1;gap 0;waits 0;", "stop 100 if kind 0;");
        due("now none", y.odds(1), 0);
        due("absent(0)", y.absent(0), 10000);
        due("absent(1)", y.absent(1), 0);
        FootOut z = new FootOut();
        due("repeals(0) of none", z.repeals(0), -2);
    }

    /** Promise 23. */
    private static void margin() {
        FootOut x = Check.with("car 0 at 30 pace 3 kind 0;car 0 at 20 pace 1 kind 0;old;gap 0;", "");
        due("at the end of TICK 1 she is in it", x.margin(1), 19);
        x.trait(0, false);
        due("at no end she is in one", x.margin(1), -1);
        FootOut y = Check.with("car 0 at 3 pace 3 kind 0;car 0 at 20 pace 3 kind 0;gap 0;waits 0;", "");
        due("knocked she is still in it", y.margin(1), 17);
        FootOut z = Check.with("lanes 2;car 1 at 30 pace 1 kind 0;old;", "");
        due("of the lane that she is in", z.margin(1), 27);
    }

    /** HIDDEN and HELD in Terms, through promise 10. */
    private static void hidden() {
        String law = "stop 100 if kind 2;";
        String other = "car 1 at 10 pace 5 kind 0;";
        FootOut x = Check.with("lanes 2;car 0 at 1 pace 1 kind 2;" + other, law);
        due("hidden by one at 1", x.run(1, 0), 2);
        Check.scene(x, "lanes 2;car 0 at 3 pace 1 kind 2;" + other);
        due("hidden by one at 3", x.run(1, 0), 2);
        Check.scene(x, "lanes 2;car 0 at 4 pace 1 kind 2;" + other);
        due("not by one at 4", x.run(1, 0), 1);
        Check.law(x, "stop 100 if lane 0;");
        Check.scene(x, "lanes 2;car 0 at 1 pace 1 kind 0;" + other);
        due("one looks past kind 0", x.run(1, 0), 1);
        Check.scene(x, "lanes 2;car 0 at 3 pace 2 kind 1;" + other);
        due("one that rolls still hides none; at its end of TICK 1 it has pace 1", x.run(1, 0), 1);
        Check.scene(x, "lanes 3;car 1 at 1 pace 1 kind 2;car 2 at 30 pace 1 kind 0;car 0 at 2 pace 1 kind 0;");
        Check.law(x, "stop 100 if lane 1 or lane 0;");
        due("over three", x.run(1, 0), 1);
        // In TICK 2 the last car of lane 1 comes into SIGHT; by then the first of lane 0, and one of lane 1, are at 0.
        String gone = "lanes 2;car 0 at 1 pace 2 kind 1;car 1 at 1 pace 2 kind 1;car 1 at 41 pace 1 kind 0;car 0 at 30 pace 3 kind 2;waits 60;gap 20;";
        FootOut g = Check.with(gone, "stop 0 if kind 2;stop 100 if kind 1 or beside or ahead;");
        due("stopped at 0", g.watch(1, 1, 0, 0), 0);
        due("those at 0 are neither beside nor ahead", g.watch(1, 2, 2, 2), 1);
        Check.law(g, "stop 0 if kind 1;stop 100 if passed;");
        Check.scene(g, "lanes 2;car 0 at 2 pace 2 kind 1;car 1 at 41 pace 1 kind 0;waits 60;gap 20;");
        due("gone on to 0", g.watch(1, 1, 0, 0), 0);
        due("one at 0 has not passed", g.watch(1, 2, 1, 2), 1);
        Check.scene(g, "lanes 2;car 0 at 3 pace 2 kind 1;car 1 at 41 pace 1 kind 0;waits 60;gap 20;");
        due("one at 1 has", g.watch(1, 2, 1, 2), 2);
        // It needs 3 TICKS: GAP 3 holds her back, GAP 2 doesn't.
        FootOut y = Check.with("car 0 at 9 pace 4 kind 0;gap 3;", "");
        due("ticks at GAP 3", y.run(1, 1), 4);
        y.set(1, 2);
        due("ticks at GAP 2", y.run(1, 1), 1);
    }

    /** Promises 24 to 26. */
    private static void place() {
        FootOut x = new FootOut();
        due("place 0", x.place(false, 300, 300, 300, 300), 0);
        due("old 301", x.place(true, 301, 0, 0, 0), -3);
        due("old -1", x.place(true, -1, 0, 0, 0), -3);
        due("others 301", x.place(true, 0, 301, 0, 0), -3);
        due("others -1", x.place(true, 0, -1, 0, 0), -3);
        due("hurtOld above", x.place(true, 5, 9, 6, 0), -3);
        due("hurtOld -1", x.place(true, 5, 9, -1, 0), -3);
        due("hurtOthers above", x.place(true, 5, 9, 0, 10), -3);
        due("hurtOthers -1", x.place(true, 5, 9, 0, -1), -3);
        for (int p = 1; p < 12; p++) {
            due("place " + p, x.place(true, p, 2 * p, p, 1), p);
        }
        due("a 13th", x.place(true, 999, 0, 0, 0), -5);
        due("status(1)", x.status(1), 8);
        due("status(2)", x.status(2), 1);
        due("behind(11, 600)", x.behind(11, 600), 0);
        due("behind(11, 0)", x.behind(11, 0), 600);
        due("behind(11, 4)", x.behind(11, 4), 0);
        due("behind(12, 999)", x.behind(12, 999), -2);
        due("behind(-1, 1)", x.behind(-1, 1), -2);
        due("behind(0, 601)", x.behind(0, 601), -3);
        due("behind(0, -1)", x.behind(0, -1), -3);
        int[] last = {1, 11, 22, 11, 1, 4};
        for (int what = 0; what < 6; what++) {
            due("at(11, " + what + ")", x.at(11, what), last[what]);
        }
        due("at(0, 0)", x.at(0, 0), 0);
        due("at(11, 6)", x.at(11, 6), -2);
        due("at(11, -1)", x.at(11, -1), -2);
        due("at(12, 0)", x.at(12, 0), -2);
        due("at(-1, 0)", x.at(-1, 0), -2);
    }

    /** Promises 27, 28. */
    private static void rateAndParted() {
        FootOut x = new FootOut();
        x.place(true, 0, 0, 0, 0);
        due("without who crosses above", x.rate(true, 0), 0);
        due("without who crosses below", x.rate(true, 1), 1);
        due("parted without", x.parted(), 0);
        x.place(true, 10, 0, 0, 0);
        due("none hurt below", x.rate(true, 1), 1);
        x.place(true, 90, 10, 27, 0);
        x.place(false, 10, 90, 4, 9);
        due("painted above", x.rate(true, 0), 27);
        due("painted below", x.rate(true, 1), 110);
        due("bare above", x.rate(false, 0), 13);
        due("bare below", x.rate(false, 1), 100);
        // Painted have the greater RATE in all, yet the less for old ones and for others: 27/100 to 4/10, 0 to 1/10.
        due("parted", x.parted(), 2);
        due("rate what 2", x.rate(true, 2), -2);
        due("rate what -1", x.rate(false, -1), -2);
        FootOut y = new FootOut();
        y.place(true, 10, 0, 1, 0);
        y.place(false, 0, 10, 0, 1);
        due("as much", y.parted(), 0);
        y.place(false, 0, 10, 0, 3);
        // Painted 1/10 of 10 old ones, bare 4/20 of 20 others.
        due("bare ones have more", y.parted(), 2);
        y.place(true, 0, 10, 0, 10);
        due("painted ones have more", y.parted(), 1);
    }

    /** Promise 29. */
    private static void worst() {
        FootOut x = new FootOut();
        int[] hurt = {5, 9, 5, 7, 9, 6};
        int[] behind = {1, 2, 3, 4, 5, 600};
        for (int p = 0; p < 6; p++) {
            x.place(true, 10, 10, hurt[p] / 2, hurt[p] - hurt[p] / 2);
            x.behind(p, behind[p]);
        }
        due("worst(0, 0)", x.worst(0, 0), 0);
        due("worst(0, 3)", x.worst(0, 3), 0);
        due("worst(1, 0)", x.worst(1, 0), 2);
        due("worst(2, 0)", x.worst(2, 0), 18);
        due("worst(3, 0)", x.worst(3, 0), 26);
        due("worst(5, 0): of 0 and 2 the first", x.worst(5, 0), 59);
        due("worst(6, 0)", x.worst(6, 0), 63);
        due("worst(2, 1)", x.worst(2, 1), 7 + 4);
        // To 1 (9): 4 has 9 too.
        due("worst(1, 3)", x.worst(1, 3), 16);
        due("worst(1, 2)", x.worst(1, 2), 4);
        // To 1 (9): 3 (7); to 4 (9): 5 (6).
        due("worst(2, 3)", x.worst(2, 3), 40);
        due("worst(2, 2)", x.worst(2, 2), 3 + 6 - 600);
        // To 1: 5 (6); to 3 (7): 0 (5); to 4: 2 (5).
        due("worst(3, 3)", x.worst(3, 3), 37);
        due("worst(4, 1)", x.worst(4, 1), 7 + 3 + 4 + 6 - 600);
        due("worst(4, 2)", x.worst(4, 2), -1000000);
        due("worst(4, 3)", x.worst(4, 3), -1000000);
        due("worst(7, 0)", x.worst(7, 0), -1000000);
        due("worst(-1, 0)", x.worst(-1, 0), -1000000);
        due("worst(1, 4)", x.worst(1, 4), -1000000);
        due("worst(1, -1)", x.worst(1, -1), -1000000);
        due("status(0)", x.status(0), 6);
        FootOut y = new FootOut();
        y.place(true, 300, 300, 300, 300);
        y.place(true, 0, 0, 0, 0);
        due("600 apart", y.worst(1, 3), 2);
        due("its fall", y.worst(1, 1), 600);
    }

    /** Promise 30. */
    private static void ranked() {
        FootOut x = new FootOut();
        x.place(true, 0, 0, 0, 0);
        x.place(true, 10, 10, 2, 3);
        x.place(false, 2, 2, 1, 0);
        x.place(false, 300, 300, 151, 0);
        x.place(false, 5, 5, 0, 0);
        int[] order = {3, 1, 2, 0, 4, -1};
        for (int k = 0; k < order.length; k++) {
            due("ranked(" + k + ")", x.ranked(k), order[k]);
        }
        due("ranked(-1)", x.ranked(-1), -1);
        due("none is counted", x.status(0), 0);
    }

    /** Promises 31, 32. */
    private static void spent() {
        FootOut x = new FootOut();
        x.place(true, 10, 0, 7, 0);
        x.place(true, 10, 0, 7, 0);
        due("without coin", x.spent(0, -1), 140000);
        due("measures at first help nothing", x.spent(999, -1), 140000);
        due("and aren't bought", x.spent(999, 20), 0);
        due("measure(4, 0, 0)", x.measure(4, 0, 0), -2);
        due("measure(-1, 1, 0)", x.measure(-1, 1, 0), -2);
        due("cost 0", x.measure(0, 0, 0), -3);
        due("cost 100", x.measure(0, 100, 0), -3);
        due("left -1", x.measure(0, 1, -1), -3);
        due("left 101", x.measure(0, 1, 101), -3);
        due("measure(3, 99, 0)", x.measure(3, 99, 0), 0);
        due("98 isn't enough", x.spent(98, -1), 140000);
        due("99 is", x.spent(99, -1), 70000);
        due("of like ones the least bits at PLACE 0", x.spent(99, 0), 0);
        due("so it is PLACE 1", x.spent(99, 1), 8);
        due("both", x.spent(198, -1), 0);
        due("what both cost", x.spent(999, 20), 198);
        due("back to less coin", x.spent(99, 20), 99);
        x.measure(3, 99, 100);
        due("a measure that leaves all", x.spent(999, 0), 0);
        due("is bought nowhere", x.spent(999, 1), 0);
        x.measure(3, 99, 0);
        x.measure(0, 10, 33);
        x.measure(1, 10, 33);
        due("of like sets the least", x.spent(10, 1), 1);
        // 70000 by 33 of 100 is 23100, once more 7623.
        due("both at both", x.spent(40, -1), 2 * 7623);
        due("what 2", x.spent(40, 2), -2);
        due("what -2", x.spent(-1, -2), -2);
        due("what 19", x.spent(40, 19), -2);
        due("what 21", x.spent(40, 21), -2);
        due("coin -1", x.spent(-1, 0), -3);
        due("coin 1000", x.spent(1000, 20), -3);
        // Downwards each time, from the least number on: 10000 by 33, by 77: 3300, 2541, by 77: 1956.57.
        FootOut y = new FootOut();
        y.place(false, 1, 0, 1, 0);
        y.measure(0, 1, 33);
        y.measure(1, 1, 77);
        y.measure(2, 1, 77);
        due("cut downwards", y.spent(3, -1), 1956);
        due("all three", y.spent(3, 0), 7);
        y.place(false, 1, 0, 1, 0);
        due("one more place", y.spent(2, -1), 6600);
        FootOut z = new FootOut();
        due("no place, no coin", z.spent(0, -1), 0);
        z.place(false, 1, 0, 1, 0);
        due("a place, no coin", z.spent(0, -1), 10000);
        z.image(0);
        z.place(false, 2, 0, 2, 0);
        due("two places, no coin", z.spent(0, -1), 30000);
        z.restore(0);
        due("a place again, no coin", z.spent(0, -1), 10000);
    }

    /** Promises 33, 34. */
    private static void fineAndUntil() {
        FootOut x = new FootOut();
        due("0 months", x.fine(900, 100, 10, 0), 900);
        due("1 month", x.fine(900, 105, 10, 1), 821);
        due("upwards, cut", x.fine(105, 900, 10, 1), 184);
        due("d 0", x.fine(900, 100, 0, 60), 900);
        due("d 100", x.fine(0, 1000, 100, 1), 1000);
        due("60 months", x.fine(1000, 0, 1, 60), x.fine(x.fine(1000, 0, 1, 30), 0, 1, 30));
        int[][] bad = {{-1, 0, 0, 0}, {1001, 0, 0, 0}, {0, -1, 0, 0}, {0, 1001, 0, 0}, {0, 0, -1, 0}, {0, 0, 101, 0}, {0, 0, 0, -1}};
        for (int[] b : bad) {
            due("fine", x.fine(b[0], b[1], b[2], b[3]), -3);
            due("until", x.until(b[0], b[1], b[2], b[3]), -3);
        }
        due("months 61", x.fine(0, 0, 0, 61), -3);
        due("near 1001", x.until(0, 0, 0, 1001), -3);
        due("near at once", x.until(900, 100, 0, 800), 0);
        due("never", x.until(900, 100, 0, 799), -1);
        due("near 1000", x.until(0, 1000, 0, 1000), 0);
        due("upwards", x.until(0, 1000, 50, 250), 2);
        due("and no nearer", x.until(1000, 0, 10, 8), -1);
        int months = x.until(1000, 0, 10, 9);
        Check.isTrue("behind as many months as fine() says", x.fine(1000, 0, 10, months) <= 9 && x.fine(1000, 0, 10, months - 1) > 9);
        due("status(1)", x.status(1), 16);
    }

    /** Promises 35, 36. */
    private static void lotAndShown() {
        FootOut x = new FootOut();
        due("lot(0, 1000)", x.lot(0, 1000), 1);
        due("lot(1000, 1000)", x.lot(1000, 1000), 1);
        due("lot(300, 200)", x.lot(300, 200), 148);
        due("lot(200, 300)", x.lot(200, 300), 148);
        // 4 (250000 + 249999) is 1999996 by 1: more than 9999.
        due("lot(500, 501)", x.lot(500, 501), -1);
        // 4 (480 520 + 494 506) is 1998256 by 14 14: 10195.2; by 15 15 (495 505): 8881.5.
        due("lot(480, 494)", x.lot(480, 494), -1);
        due("lot(480, 495)", x.lot(480, 495), 8882);
        due("lot(-1, 0)", x.lot(-1, 0), -3);
        due("lot(0, 1001)", x.lot(0, 1001), -3);
        due("lot(0, -1)", x.lot(0, -1), -3);
        due("shown(0, 1, 1, 1)", x.shown(0, 1, 1, 1), 1);
        due("shown(0, 5, 0, 9)", x.shown(0, 5, 0, 9), 0);
        due("shown(5, 5, 9, 9)", x.shown(5, 5, 9, 9), 0);
        due("shown(300, 300, 0, 300)", x.shown(300, 300, 0, 300), 1);
        // 2 of 4 and 0 of 4: (8)(8) 16 = 1024 to 4 (2 2 64) = 1024.
        due("just shown", x.shown(2, 4, 0, 4), 1);
        due("just not", x.shown(1, 3, 0, 4), 0);
        due("shown n 0", x.shown(0, 0, 0, 1), -3);
        due("shown m 0", x.shown(0, 1, 0, 0), -3);
        due("shown n 301", x.shown(0, 301, 0, 1), -3);
        due("shown m 301", x.shown(0, 1, 0, 301), -3);
        due("shown a -1", x.shown(-1, 1, 0, 1), -3);
        due("shown a 2 of 1", x.shown(2, 1, 0, 1), -3);
        due("shown b -1", x.shown(0, 1, -1, 1), -3);
        due("shown b 2 of 1", x.shown(0, 1, 2, 1), -3);
        due("status(1)", x.status(1), 11);
    }

    /** Promise 37. */
    private static void clumps() {
        FootOut x = new FootOut();
        due("missing", x.clumps(0, 1, 1, 0), -6);
        due("what ahead of missing", x.clumps(0, 10, 1, 3), -2);
        Check.fill(x, 0, 2);
        for (int what = 0; what < 3; what++) {
            due("of no numbers", x.clumps(0, 10, 5, what), 0);
        }
        // 9999 goes at 10000, 0 and 20 at once, 15 and 16 at 20 with it, 13 and 13 at once.
        Check.fill(x, 0, 2, 9999, 0, 20, 15, 16, 13, 13);
        due("waited", x.clumps(0, 10, 5, 0), 1 + 5 + 4);
        due("greatest", x.clumps(0, 10, 5, 1), 3);
        due("how many", x.clumps(0, 10, 5, 2), 4);
        due("c 2, g 1", x.clumps(0, 2, 1, 0), 1 + 1 + 1 + 1);
        due("c 999, g 998", x.clumps(0, 999, 998, 0), 0);
        due("c 1", x.clumps(0, 1, 1, 0), -3);
        due("c 1000", x.clumps(0, 1000, 1, 0), -3);
        due("g 0", x.clumps(0, 10, 0, 0), -3);
        due("g 10", x.clumps(0, 10, 10, 0), -3);
        x.write(0, 3, 10000);
        due("a number above", x.clumps(0, 10, 5, 0), -3);
        x.write(0, 3, 0);
        x.write(0, 0, 10000);
        due("the first above", x.clumps(0, 10, 5, 0), -3);
        x.write(0, 0, 0);
        x.write(0, 6, -1);
        due("the last below", x.clumps(0, 10, 5, 0), -3);
        x.write(0, 6, 0);
        x.write(0, 3, -1);
        due("a number below", x.clumps(0, 10, 5, 0), -3);
        due("row 4", x.clumps(4, 10, 5, 0), -2);
        due("row -1", x.clumps(-1, 10, 5, 0), -2);
        due("what -1", x.clumps(0, 10, 5, -1), -2);
    }

    /** Promise 38. */
    private static void lamp() {
        FootOut x = new FootOut();
        for (int cars : new int[] {0, 1, 3, 17, 500, 999}) {
            for (int walkers : new int[] {0, 1, 2, 40, 999}) {
                double least = Double.MAX_VALUE;
                int cycle = 0;
                int green = 0;
                for (int c = 20; c <= 120; c++) {
                    for (int g = 5; g <= c - 10; g++) {
                        double waits = (double) (cars * g * g + walkers * (c - g) * (c - g)) / c;
                        if (waits < least - 1e-9) {
                            least = waits;
                            cycle = c;
                            green = g;
                        }
                    }
                }
                due("lamp(" + cars + ", " + walkers + ", 0)", x.lamp(cars, walkers, 0), cycle);
                due("lamp(" + cars + ", " + walkers + ", 1)", x.lamp(cars, walkers, 1), green);
            }
        }
        due("what 2", x.lamp(-1, 0, 2), -2);
        due("what -1", x.lamp(0, 0, -1), -2);
        due("cars -1", x.lamp(-1, 0, 0), -3);
        due("cars 1000", x.lamp(1000, 0, 0), -3);
        due("walkers -1", x.lamp(0, -1, 0), -3);
        due("walkers 1000", x.lamp(0, 1000, 1), -3);
    }

    /** Promises 39, 40. */
    private static void rests() {
        FootOut x = new FootOut();
        due("all alike", x.rests(4, 4, 0), 25);
        due("nobody", x.rests(0, 0, 0), 1);
        due("the first", x.rests(4, 4, 1), 0);
        due("pay(0, 1, 4, 99)", x.pay(0, 1, 4, 99), 0);
        due("pay(0, 1, 4, -99)", x.pay(0, 1, 4, -99), 99);
        due("pay(0, 1, 4, 0)", x.pay(0, 1, 4, 0), -99);
        int[][] bad = {{2, 0, 0, 0}, {-1, 0, 0, 0}, {0, 2, 0, 0}, {0, -1, 0, 0}, {0, 0, 5, 0}, {0, 0, -1, 0}, {0, 0, 0, 100}, {0, 0, 0, -100}};
        for (int[] b : bad) {
            due("pay", x.pay(b[0], b[1], b[2], b[3]), -1000);
        }
        due("status(0)", x.status(0), 8);
        // A car has 2 by going where none steps out, -9 else; a walker 3 by stepping out where no car goes, -50 else.
        for (int n = 0; n <= 4; n++) {
            x.pay(0, 1, n, n == 0 ? 2 : -9);
            x.pay(1, 1, n, n == 0 ? 3 : -50);
        }
        due("either all cars go or all walkers", x.rests(2, 3, 0), 2);
        due("the first: i 0, j 3", x.rests(2, 3, 1), 3);
        due("without walkers the cars go", x.rests(4, 0, 1), 40);
        due("without cars the walkers do", x.rests(0, 4, 1), 4);
        // Cars like to do as walkers do, walkers not as cars: no rest.
        FootOut y = new FootOut();
        y.pay(0, 1, 1, 1);
        y.pay(0, 0, 0, 1);
        y.pay(1, 1, 0, 1);
        y.pay(1, 0, 1, 1);
        due("no rest", y.rests(1, 1, 0), 0);
        due("no first", y.rests(1, 1, 1), -1);
        due("what 2", y.rests(5, 0, 2), -2);
        due("what -1", y.rests(0, 0, -1), -2);
        due("k 5", y.rests(5, 0, 0), -3);
        due("k -1", y.rests(-1, 0, 0), -3);
        due("m 5", y.rests(0, 5, 1), -3);
        due("m -1", y.rests(0, -1, 1), -3);
    }

    /** Promise 41. */
    private static void thanks() {
        FootOut x = new FootOut();
        due("all of it", x.thanks(1000000, 100, 100, 0, 99), 1000000);
        due("none of it", x.thanks(1000000, 0, 100, 0, 1), 0);
        // 333333 by 33: 10999989 by 77, and 89000011 by 11: 1825999274 by 10000.
        due("downwards", x.thanks(333333, 33, 77, 11, 1), 182599);
        due("twice", x.thanks(333333, 33, 77, 11, 2), x.thanks(182599, 33, 77, 11, 1));
        due("99 cars", x.thanks(5, 60, 90, 20, 99), x.thanks(x.thanks(5, 60, 90, 20, 50), 60, 90, 20, 49));
        int[][] bad = {{-1, 0, 0, 0, 0}, {1000001, 0, 0, 0, 0}, {0, -1, 0, 0, 0}, {0, 101, 0, 0, 0}, {0, 0, -1, 0, 0},
            {0, 0, 101, 0, 0}, {0, 0, 0, -1, 0}, {0, 0, 0, 101, 0}, {0, 0, 0, 0, -1}, {0, 0, 0, 0, 100}};
        for (int[] b : bad) {
            due("thanks", x.thanks(b[0], b[1], b[2], b[3], b[4]), -3);
        }
        due("status(1)", x.status(1), bad.length);
    }

    /** Promise 42. */
    private static void filled() {
        FootOut x = new FootOut();
        due("missing", x.filled(0, 99), -6);
        Check.fill(x, 0, 3);
        due("of no numbers", x.filled(0, 0), -7);
        Check.fill(x, 0, 3, -5, -1, 7, -1, -2, 1000000, -9, 0, Long.MIN_VALUE);
        long[] due = {7, 7, 7, 500003, 500003, 1000000, 500000, 0, 0};
        for (int i = 0; i < due.length; i++) {
            due("filled(0, " + i + ")", x.filled(0, i), due[i]);
        }
        due("i 9", x.filled(0, 9), -7);
        due("i -1", x.filled(0, -1), -7);
        x.write(0, 8, 1000001);
        due("one above", x.filled(0, 0), -3);
        due("no such number first", x.filled(0, 9), -7);
        due("row 4", x.filled(4, 0), -2);
        due("row -1", x.filled(-1, 0), -2);
        Check.fill(x, 1, 0, -1, -2, -3);
        due("none is there", x.filled(1, 2), -1);
        due("which isn't refused", x.status(0), 2);
    }

    /** Promise 43. */
    private static void slip() {
        FootOut x = new FootOut();
        Check.fill(x, 0, 2, 3, 1, 4, 1, 5, 9, 2);
        Check.fill(x, 1, 2, 8, 8, 8, 3, 1, 4, 1);
        due("3 further", x.slip(0, 1), 3);
        due("3 back", x.slip(1, 0), -3);
        Check.fill(x, 2, 2, 5, 5, 5, 5);
        Check.fill(x, 3, 2, 5, -1, 5);
        due("of like ones 0", x.slip(2, 3), 0);
        Check.fill(x, 2, 2, 0, 8, 0);
        Check.fill(x, 3, 2, 8, 0, 8);
        due("then that below 0", x.slip(2, 3), -1);
        // By how many these are: at 0 it is 6 by 2, at 1 and -1 5 and 4 by 1; at 2 none is shared.
        Check.fill(x, 2, 2, 1, 5);
        Check.fill(x, 3, 2, 6, 6);
        due("by how many", x.slip(2, 3), -1);
        Check.fill(x, 2, 3, 1);
        Check.fill(x, 3, 0, 1);
        due("one and one", x.slip(2, 3), 0);
        Check.fill(x, 3, 2, 1000001);
        due("one above", x.slip(2, 3), -100);
        due("the other way", x.slip(3, 2), -100);
        Check.fill(x, 3, 2);
        due("none there", x.slip(2, 3), -100);
        Check.fill(x, 3, 2, -1, -1);
        due("all missing", x.slip(3, 2), -100);
        due("row 4", x.slip(4, 0), -100);
        due("row -1", x.slip(0, -1), -100);
        due("status(0)", x.status(0), 6);
        due("a MISSING one", new FootOut().slip(0, 0), -100);
    }

    /** Promises 44, 45. */
    private static void numbersAndWrite() {
        FootOut x = new FootOut();
        long v = 0x123456789abcdef0L;
        long[] cut = {(byte) 0xf0, (short) 0xdef0, 0x9abcdef0, v};
        for (int sort = 0; sort < 4; sort++) {
            due("numbers", x.numbers(sort, sort, 40), 0);
            due("write", x.write(sort, 39, v), cut[sort]);
            due("write 40", x.write(sort, 40, v), -7);
            due("write -1", x.write(sort, -1, v), -7);
        }
        due("write 127", x.write(0, 0, 127), 127);
        due("write 128", x.write(0, 0, 128), -128);
        due("write 32768", x.write(1, 0, 32768), -32768);
        due("write 1 << 31", x.write(2, 0, 1L << 31), -(1L << 31));
        due("write least", x.write(3, 0, Long.MIN_VALUE), Long.MIN_VALUE);
        due("row 4", x.write(4, 99, 0), -2);
        due("row -1", x.write(-1, 0, 0), -2);
        due("numbers row 4", x.numbers(4, 0, 99), -2);
        due("numbers row -1", x.numbers(-1, 0, 0), -2);
        due("numbers sort 4", x.numbers(0, 4, 99), -2);
        due("numbers sort -1", x.numbers(0, -1, 0), -2);
        due("numbers n 41", x.numbers(0, 0, 41), -3);
        due("numbers n -1", x.numbers(0, 0, -1), -3);
        x.write(0, 1, 5);
        due("the row stays", x.filled(0, 1), 5);
        due("a new one", x.numbers(0, 1, 2), 0);
        due("is all 0", x.filled(0, 1), 0);
        due("and has two", x.filled(0, 2), -7);
        due("no numbers", x.numbers(0, 1, 0), 0);
        due("write to none", x.write(0, 0, 1), -7);
    }

    /** Promises 46, 47. */
    private static void images() {
        FootOut x = Check.with("lanes 2;car 1 at 12 pace 3 kind 1;pram;gap 7;", "stop 40 if pram or near 5;");
        x.trait(2, true);
        x.set(0, 2);
        x.place(true, 10, 10, 4, 1);
        x.behind(0, 3);
        x.measure(2, 5, 50);
        x.pay(1, 0, 3, -7);
        Check.fill(x, 0, 0, 1, 2);
        long over = x.odds(0);
        long ticks = x.odds(3);
        due("image(1)", x.image(1), 0);
        due("spent", x.spent(5, -1), 25000);
        due("restore(0)", x.restore(0), -5);
        Check.scene(x, "");
        Check.law(x, "");
        x.place(false, 1, 1, 1, 1);
        x.behind(0, 99);
        x.measure(2, 99, 99);
        x.pay(1, 0, 3, 50);
        x.write(0, 0, 77);
        due("image(0)", x.image(0), 0);
        due("spent otherwise", x.spent(999, -1), 49500 + 19800);
        due("odds otherwise", x.odds(5), 1);
        due("fault of the latest text", Check.scene(x, "?"), -31);
        x.feed(1, 2, 3, 4, 5);
        due("restore(1)", x.restore(1), 0);
        int[] counts = {2, 1, 6, 2, 7, 20, 40, 1, 1, 20, 4};
        for (int i = 0; i < counts.length; i++) {
            due("count(" + i + ")", x.count(i), counts[i]);
        }
        due("car", x.car(0, 1), 12);
        due("chance", x.chance(0), 40);
        due("odds(0)", x.odds(0), over);
        due("odds(3)", x.odds(3), ticks);
        int[] place = {1, 10, 10, 4, 1, 3};
        for (int what = 0; what < 6; what++) {
            due("at(0, " + what + ")", x.at(0, what), place[what]);
        }
        due("spent", x.spent(5, -1), 25000);
        due("pay", x.pay(1, 0, 3, -7), -7);
        due("rows are not in it", x.filled(0, 0), 77);
        due("nor the fault", x.fault(0), 1);
        due("status stays", x.status(2), 1);
        due("restore(0)", x.restore(0), 0);
        due("no cars", x.count(1), 0);
        due("the second place", x.at(1, 4), 1);
        due("places", x.count(8), 2);
        due("pay", x.pay(1, 0, 3, 50), 50);
        due("cost", x.spent(98, 20), 0);
        due("again restore(1)", x.restore(1), 0);
        due("it is not used up", x.count(1), 1);
        FootOut y = new FootOut();
        y.image(0);
        y.place(true, 5, 6, 1, 2);
        y.behind(0, 9);
        y.image(1);
        y.restore(0);
        due("none", y.count(8), 0);
        due("another one", y.place(false, 50, 60, 10, 20), 0);
        due("has none behind", y.at(0, 5), 0);
        y.restore(1);
        int[] first = {1, 5, 6, 1, 2, 9};
        for (int what = 0; what < 6; what++) {
            due("the first one's " + what, y.at(0, what), first[what]);
        }
        due("image(2)", x.image(2), -2);
        due("image(-1)", x.image(-1), -2);
        due("restore(2)", x.restore(2), -2);
        due("restore(-1)", x.restore(-1), -2);
    }

    /** Promise 48. */
    private static void status() {
        FootOut x = new FootOut();
        x.car(0, 0);
        x.watch(0, 0, 0, 0);
        x.pay(2, 0, 0, 0);
        x.pay(0, 0, 0, 100);
        x.slip(0, 0);
        x.worst(1, 0);
        x.helps(9);
        x.blame(0, 0);
        x.repeals(0);
        x.absent(0);
        x.odds(9);
        x.mean(9);
        due("status(0)", x.status(0), 12);
        x.best(9);
        x.back(-1);
        x.text(0, 1);
        due("status(1)", x.status(1), 3);
        x.restore(1);
        due("status(2)", x.status(2), 1);
        x.filled(0, 0);
        x.write(0, 0, 0);
        x.clumps(0, 2, 1, 0);
        due("status(3)", x.status(3), 3);
        x.numbers(0, 0, 0);
        x.filled(0, 0);
        x.write(0, 0, 0);
        due("status(4)", x.status(4), 2);
        Check.law(x, "?");
        due("status(5)", x.status(5), 1);
        due("status(6)", x.status(6), -1);
        due("status(-1)", x.status(-1), -1);
        x.fault(9);
        x.count(99);
        x.ranked(9);
        due("NONE isn't counted", x.status(0) + x.status(1) + x.status(2) + x.status(3) + x.status(4) + x.status(5), 22);
    }
}
