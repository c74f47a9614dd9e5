/** ==== 2 of the document and promises 10 to 23, a check for each bound that they name. */
public final class TickBoundsTest {
    /** All cars that can stop do, or none does. */
    private static final String ALL = "stop 100 if near 999;";
    private static final int UNDECIDED = 0;
    private static final int GOES_ON = 1;
    private static final int STOPS = 2;

    public static void main(String[] args) {
        atTheKerb();
        hump();
        sight();
        firstLine();
        ahead();
        beside();
        passed();
        in();
        waits();
        gap();
        notInTheWay();
        heldByTheTickAhead();
        hidden();
        stopping();
        heldCars();
        nearestOne();
        orderOfGoing();
        knocked();
        harm();
        past();
        stoodAtTheKerb();
        ninetyNineTicks();
        draws();
        seedsWrap();
        triesBounds();
        runAndWatchBounds();
        oddsBounds();
        runsAndOdds();
        eightCars();
        bestBounds();
        bestSets();
        backBounds();
        wiseBounds();
        blameBounds();
        meanBounds();
        repealsBounds();
        absentBounds();
        marginBounds();
        Check.end();
    }

    private static void due(String call, long got, long want) {
        Check.due(call, got, want);
    }

    private static FootOut with(String scene, String law) {
        return Check.with(scene, law);
    }

    private static int dist(FootOut x, int t, int c) {
        return x.watch(1, t, c, 0);
    }

    private static int mind(FootOut x, int t, int c) {
        return x.watch(1, t, c, 2);
    }

    private static int held(FootOut x, int t, int c) {
        return x.watch(1, t, c, 3);
    }

    /** She is past 0 LANES at first, at the kerb; cars are as told, undecided and not HELD. */
    private static void atTheKerb() {
        FootOut x = with("lanes 3;car 2 at 200 pace 9 kind 3;car 0 at 1 pace 1 kind 0;sight 200;", ALL);
        due("stands(1, 0)", x.stands(1, 0), 0);
        int[][] due = {{200, 9, UNDECIDED, 0}, {1, 1, UNDECIDED, 0}};
        for (int c = 0; c < 2; c++) {
            for (int what = 0; what < 4; what++) {
                due("watch(1, 0, " + c + ", " + what + ")", x.watch(1, 0, c, what), due[c][what]);
            }
        }
    }

    /** With hump PACE is 4 at most. */
    private static void hump() {
        for (int pace = 1; pace <= 9; pace++) {
            FootOut x = with("car 0 at 200 pace " + pace + " kind 0;hump;", "");
            due("PACE " + pace + " with hump", x.watch(1, 0, 0, 1), Math.min(pace, 4));
            due("it goes so far", dist(x, 1, 0), 200 - Math.min(pace, 4));
            x.trait(6, false);
            due("PACE " + pace, x.watch(1, 0, 0, 1), pace);
            due("it goes farther", dist(x, 1, 0), 200 - pace);
        }
    }

    /** DIST 1 to SIGHT: at SIGHT it decides, one yard beyond it doesn't; at 0 it never does. */
    private static void sight() {
        for (int sight : new int[] {1, 2, 40, 199, 200}) {
            FootOut x = with("car 0 at " + sight + " pace 1 kind 0;sight " + sight + ";", ALL);
            due("at SIGHT " + sight, mind(x, 1, 0), STOPS);
        }
        for (int sight : new int[] {1, 2, 40, 199}) {
            FootOut x = with("car 0 at " + (sight + 1) + " pace 1 kind 0;gap 20;sight " + sight + ";", ALL);
            due("beyond SIGHT " + sight, mind(x, 1, 0), UNDECIDED);
            due("nor in the odds", x.blame(0, 1), x.run(1, 4) == 0 ? 0 : 100);
        }
        FootOut x = with("car 0 at 2 pace 2 kind 0;car 0 at 30 pace 9 kind 0;sight 1;gap 20;waits 60;", ALL);
        due("gone ahead of SIGHT", dist(x, 1, 0), 0);
        due("it never decides", mind(x, 99, 0), UNDECIDED);
        due("gone below 0", dist(x, 99, 1), -6);
        due("nor does it", mind(x, 99, 1), UNDECIDED);
        due("all undecided", x.run(1, 4), 0);
        // At DIST 41 it comes to 40 in TICK 1 and decides in TICK 2.
        FootOut y = with("car 0 at 41 pace 1 kind 0;gap 20;waits 60;lanes 2;car 1 at 20 pace 1 kind 0;", "stop 100 if lane 0;");
        due("SIGHT is 40 without: TICK 1", mind(y, 1, 0), UNDECIDED);
        due("SIGHT is 40 without: TICK 2", mind(y, 2, 0), STOPS);
    }

    /** By the first line whose TEST is so; none: 0. Who decided stays by it. */
    private static void firstLine() {
        FootOut x = with("car 0 at 30 pace 2 kind 0;car 0 at 20 pace 1 kind 1;gap 20;waits 60;",
                "stop 0 if kind 1;stop 100 if near 31;stop 0 if kind 0;");
        due("the second line", mind(x, 1, 0), STOPS);
        due("the first line", mind(x, 1, 1), GOES_ON);
        FootOut y = with("car 0 at 30 pace 2 kind 0;gap 20;waits 60;", "stop 100 if near 29;");
        due("no line: it goes on", mind(y, 1, 0), GOES_ON);
        due("and stays by it", mind(y, 5, 0), GOES_ON);
        Check.law(y, "stop 100 if not near 30;");
        due("it stops", mind(y, 1, 0), STOPS);
        Check.law(y, "");
        due("an empty LAW", mind(y, 1, 0), GOES_ON);
    }

    /** ahead: its lane, DIST above 0 and below its own, decided to stop: ahead of it in this TICK or before. */
    private static void ahead() {
        String law = "stop 100 if kind 1;stop 100 if ahead;";
        FootOut x = with("lanes 2;car 0 at 9 pace 1 kind 1;car 0 at 10 pace 1 kind 0;car 0 at 9 pace 1 kind 0;car 0 at 8 pace 1 kind 0;"
                + "car 1 at 20 pace 1 kind 0;", law);
        due("behind it", mind(x, 1, 1), STOPS);
        due("beside it at the same DIST", mind(x, 1, 2), GOES_ON);
        due("ahead of it", mind(x, 1, 3), GOES_ON);
        due("in another lane", mind(x, 1, 4), GOES_ON);
        Check.scene(x, "car 0 at 10 pace 1 kind 0;car 0 at 9 pace 1 kind 1;");
        due("one that decides later", mind(x, 1, 0), GOES_ON);
        Check.scene(x, "car 0 at 10 pace 1 kind 0;car 0 at 9 pace 1 kind 2;");
        due("one that goes on", mind(x, 1, 0), GOES_ON);
        // In TICK 2 the second comes into SIGHT; the first stands at 1.
        Check.scene(x, "car 0 at 1 pace 1 kind 1;car 0 at 4 pace 1 kind 0;sight 3;waits 60;old;");
        due("it is at 1", dist(x, 1, 0), 1);
        due("one at 1", mind(x, 2, 1), STOPS);
        // She waits for a car of lane 1, so that the RUN goes on when the first is at 0.
        Check.scene(x, "lanes 2;car 0 at 1 pace 2 kind 1;car 0 at 3 pace 1 kind 0;car 1 at 20 pace 1 kind 0;sight 2;gap 20;");
        due("it stops", mind(x, 1, 0), STOPS);
        due("at 0", dist(x, 1, 0), 0);
        due("one at 0 is not ahead", mind(x, 2, 1), GOES_ON);
    }

    /** beside: a lane next to its own, DIST above 0, near or far. */
    private static void beside() {
        String law = "stop 100 if kind 1;stop 100 if beside;";
        for (int lane = 0; lane < 4; lane++) {
            for (int other = 0; other < 4; other++) {
                FootOut x = with("lanes 4;car " + lane + " at 20 pace 1 kind 1;car " + other + " at 10 pace 1 kind 0;car "
                        + other + " at 30 pace 1 kind 0;gap 20;", law);
                int due = Math.abs(lane - other) == 1 ? STOPS : GOES_ON;
                due("lane " + lane + " beside " + other, mind(x, 1, 1), due);
                due("lane " + lane + " beside " + other + ", nearer", mind(x, 1, 2), due);
            }
        }
        FootOut x = with("lanes 2;car 1 at 10 pace 1 kind 0;car 0 at 9 pace 1 kind 1;", law);
        due("one that decides later", mind(x, 1, 0), GOES_ON);
        Check.scene(x, "lanes 2;car 1 at 10 pace 1 kind 2;car 0 at 9 pace 1 kind 0;");
        due("one that goes on", mind(x, 1, 1), GOES_ON);
        // In TICK 3 car 1 comes into SIGHT; car 0 stops to 0 in TICK 2, or stands at 1. Car 2 keeps her at the kerb.
        String far = "car 1 at 5 pace 1 kind 0;car 0 at 60 pace 3 kind 2;sight 3;gap 20;waits 60;";
        Check.scene(x, "lanes 2;car 0 at 3 pace 3 kind 1;" + far);
        due("it stops to 0", dist(x, 2, 0), 0);
        due("it has stopped", mind(x, 2, 0), STOPS);
        due("one at 0 is not beside", mind(x, 3, 1), GOES_ON);
        Check.scene(x, "lanes 2;car 0 at 2 pace 2 kind 1;" + far);
        due("it stops to 1", dist(x, 2, 0), 1);
        due("one at 1 is", mind(x, 3, 1), STOPS);
    }

    /** passed: another lane, DIST above 0 and below its own, decided to go on. */
    private static void passed() {
        String law = "stop 0 if kind 1;stop 100 if kind 2;stop 100 if passed;";
        for (int lane = 0; lane < 4; lane++) {
            for (int other = 0; other < 4; other++) {
                FootOut x = with("lanes 4;car " + lane + " at 20 pace 1 kind 1;car " + other + " at 21 pace 1 kind 0;car "
                        + lane + " at 40 pace 1 kind 1;gap 20;", law);
                due("lane " + lane + " passed " + other, mind(x, 1, 1), lane != other ? STOPS : GOES_ON);
            }
        }
        FootOut x = with("lanes 2;car 0 at 20 pace 1 kind 1;car 1 at 20 pace 1 kind 0;car 1 at 19 pace 1 kind 0;", law);
        due("at the same DIST", mind(x, 1, 1), GOES_ON);
        due("nearer than it", mind(x, 1, 2), GOES_ON);
        Check.scene(x, "lanes 2;car 0 at 20 pace 1 kind 2;car 1 at 21 pace 1 kind 0;");
        due("one that stops", mind(x, 1, 1), GOES_ON);
        Check.scene(x, "lanes 2;car 0 at 20 pace 9 kind 2;car 1 at 21 pace 1 kind 0;");
        due("one that can't stop goes on", mind(x, 1, 1), STOPS);
        Check.scene(x, "lanes 2;car 1 at 21 pace 1 kind 0;car 0 at 20 pace 1 kind 1;");
        due("one that decides later", mind(x, 1, 0), GOES_ON);
        Check.scene(x, "lanes 2;car 0 at 41 pace 1 kind 1;car 1 at 21 pace 1 kind 0;");
        due("one that is undecided", mind(x, 1, 1), GOES_ON);
    }

    /** in: she is past a LANE, or in one; (a) is ahead of (b), so not in the TICK in which she steps out. */
    private static void in() {
        String law = "stop 100 if in;";
        FootOut x = with("lanes 2;car 1 at 41 pace 1 kind 0;car 1 at 40 pace 1 kind 0;", law);
        due("at the kerb", mind(x, 1, 1), GOES_ON);
        due("past a LANE", x.stands(1, 1), 10);
        due("one that sees it then", mind(x, 2, 0), STOPS);
        FootOut y = with("lanes 2;car 1 at 41 pace 1 kind 0;old;", law);
        due("in a LANE", y.stands(1, 1), 1);
        due("one that sees it then", mind(y, 2, 0), STOPS);
        FootOut z = with("car 0 at 41 pace 1 kind 0;car 0 at 5 pace 1 kind 0;gap 20;", law);
        due("still at the kerb", z.stands(1, 2), 0);
        due("one that sees it then", mind(z, 2, 0), GOES_ON);
    }

    /** At the kerb she goes behind WAITS TICKS or more, FREE or not; in the LANES behind she waits till they are FREE. */
    private static void waits() {
        for (int waits : new int[] {0, 1, 19, 20}) {
            FootOut x = with("car 0 at 200 pace 2 kind 0;car 0 at 40 pace 1 kind 0;car 0 at 20 pace 1 kind 0;gap 20;waits " + waits + ";", "");
            due("she is at the kerb", x.stands(1, waits), 0);
            due("she stood so long", x.run(1, 5), waits);
            due("over in one more", x.run(1, 1), waits + 1);
        }
        FootOut y = with("lanes 2;car 1 at 20 pace 1 kind 0;car 1 at 40 pace 1 kind 0;gap 20;waits 0;", "");
        due("behind a LANE WAITS is nothing", y.run(1, 1), 41);
        due("she stood at the kerb no TICK", y.run(1, 5), 0);
        FootOut z = with("car 0 at 20 pace 1 kind 0;gap 20;waits 60;", "");
        due("FREE ahead of WAITS", z.run(1, 5), 20);
    }

    /** More than GAP TICKS, DIST by PACE upwards. */
    private static void gap() {
        for (int pace : new int[] {1, 2, 3, 9}) {
            for (int gap : new int[] {0, 1, 3, 20}) {
                for (int more = -1; more <= 1; more++) {
                    int dist = pace * gap + more;
                    if (dist >= 1 && dist <= 200) {
                        FootOut x = with("car 0 at " + dist + " pace " + pace + " kind 0;gap " + gap + ";sight 200;waits 60;", "");
                        int needs = (dist + pace - 1) / pace;
                        due("needs " + needs + " of GAP " + gap, x.stands(1, 1) > 0 ? 1 : 0, needs > gap ? 1 : 0);
                    }
                }
            }
        }
        FootOut x = with("car 0 at 3 pace 1 kind 0;waits 60;", "");
        due("GAP is 3 without: 3 TICKS", x.stands(1, 1), 0);
        Check.scene(x, "car 0 at 4 pace 1 kind 0;waits 60;");
        due("GAP is 3 without: 4 TICKS", x.stands(1, 1), 10);
    }

    /** Cars of other lanes, at 0, or that decided to stop, don't count; undecided ones do. */
    private static void notInTheWay() {
        FootOut x = with("lanes 2;car 1 at 20 pace 1 kind 0;gap 20;", "");
        due("a car of another lane", x.stands(1, 1), 10);
        due("then it counts", x.stands(1, 2), 10);
        Check.scene(x, "car 0 at 20 pace 1 kind 0;gap 20;");
        Check.law(x, ALL);
        due("one that decided to stop", x.stands(1, 1), 10);
        Check.scene(x, "car 0 at 20 pace 1 kind 0;gap 20;sight 19;");
        due("one that is undecided", x.stands(1, 1), 0);
        due("till it stops", x.stands(1, 2), 10);
        Check.law(x, "");
        Check.scene(x, "car 0 at 1 pace 1 kind 0;gap 20;");
        due("at 1", x.stands(1, 1), 0);
        due("at 0", x.stands(1, 2), 10);
        Check.scene(x, "car 0 at 1 pace 9 kind 0;gap 20;");
        due("below 0", x.stands(1, 2), 10);
        Check.scene(x, "car 0 at 200 pace 1 kind 0;car 0 at 20 pace 1 kind 0;gap 20;");
        due("each of them", x.stands(1, 1), 0);
        Check.scene(x, "car 0 at 20 pace 1 kind 0;car 0 at 200 pace 1 kind 0;gap 20;");
        due("each of them", x.stands(1, 1), 0);
    }

    /** HELD by the TICK ahead it isn't in the way; in the TICK itself it still is. */
    private static void heldByTheTickAhead() {
        FootOut x = with("car 0 at 6 pace 1 kind 0;car 0 at 12 pace 5 kind 0;gap 20;waits 60;", "stop 100 if near 7;");
        due("not HELD yet", x.stands(1, 1), 0);
        due("HELD in TICK 1", held(x, 1, 1), 1);
        due("so she goes in TICK 2", x.stands(1, 2), 10);
        // It is HELD at 3 in TICK 1, so she goes in TICK 2, in which nothing holds it any more.
        FootOut y = with("car 0 at 9 pace 7 kind 0;car 0 at 3 pace 3 kind 1;gap 20;waits 60;", "stop 100 if kind 1;");
        due("HELD in TICK 1", held(y, 1, 0), 1);
        due("at 3", dist(y, 1, 0), 3);
        due("at the kerb in TICK 1", y.stands(1, 1), 0);
        due("KNOCKED in TICK 2", y.run(1, 1), 2);
        due("by it", y.run(1, 3), 0);
        due("with HARM", y.run(1, 2), 49);
    }

    private static int hiddenEnd(String hiding, String other, String law) {
        return with("lanes 3;" + hiding + other, law).run(1, 0);
    }

    /** HIDDEN: in the lane ahead one of KIND 1 to 3 that decided to stop stands with DIST 1 to 3, less than its own. */
    private static void hidden() {
        String law = "stop 100 if lane 0;";
        String other = "car 1 at 10 pace 5 kind 0;";
        for (int dist = 1; dist <= 5; dist++) {
            due("one that stands at " + dist, hiddenEnd("car 0 at " + dist + " pace 1 kind 1;", other, law), dist <= 3 ? 2 : 1);
        }
        for (int kind = 0; kind <= 3; kind++) {
            due("one of KIND " + kind, hiddenEnd("car 0 at 2 pace 1 kind " + kind + ";", other, law), kind > 0 ? 2 : 1);
        }
        due("one that goes on", hiddenEnd("car 0 at 3 pace 1 kind 1;gap 1;waits 0;", "car 1 at 10 pace 5 kind 0;", ""), 1);
        // With PACE 2 it rolls at PACE 1 in TICK 1, and stands behind TICK 2; she looks in TICK 2.
        due("one that rolls still", hiddenEnd("car 0 at 4 pace 2 kind 1;", other, law), 1);
        // DIST less than its own: behind TICK 1 the other one is at 3, or at 2 as the one that stands.
        due("one yard nearer", hiddenEnd("car 0 at 2 pace 1 kind 1;", "car 1 at 6 pace 3 kind 0;", law), 2);
        due("at the same DIST", hiddenEnd("car 0 at 2 pace 1 kind 1;", "car 1 at 4 pace 2 kind 0;", law), 1);
        due("one yard behind", with("lanes 2;car 0 at 1 pace 1 kind 1;car 1 at 4 pace 2 kind 0;gap 20;", law).run(1, 0), 2);
        due("one yard ahead", with("lanes 2;car 0 at 3 pace 1 kind 1;car 1 at 4 pace 2 kind 0;gap 20;", law).run(1, 1), 3);
        // Neither in its own lane, nor behind it, nor two lanes ahead.
        due("in the lane behind", hiddenEnd("car 2 at 1 pace 1 kind 1;", other, "stop 100 if lane 2;"), 1);
        due("in its own lane", with("car 0 at 1 pace 1 kind 1;car 0 at 10 pace 5 kind 0;gap 2;waits 60;sight 5;", "stop 100 if kind 1;").stands(1, 1), 0);
        due("two lanes ahead", hiddenEnd("car 0 at 1 pace 1 kind 1;", "car 2 at 15 pace 5 kind 0;", law), 1);
        due("the lane ahead of that", hiddenEnd("car 1 at 1 pace 1 kind 1;", "car 2 at 15 pace 5 kind 0;", "stop 100 if lane 1;"), 2);
    }

    /** Who has decided to stop: PACE one less, 0 at least, DIST less PACE. */
    private static void stopping() {
        FootOut x = with("car 0 at 40 pace 4 kind 0;car 0 at 60 pace 1 kind 0;gap 20;waits 60;", ALL);
        x.set(3, 60);
        due("over at once", x.run(1, 1), 1);
        FootOut y = with("lanes 2;car 0 at 40 pace 4 kind 0;car 0 at 50 pace 1 kind 0;car 1 at 20 pace 1 kind 0;gap 20;sight 200;", "stop 100 if lane 0;");
        int[] dist = {40, 37, 35, 34, 34, 34};
        int[] pace = {4, 3, 2, 1, 0, 0};
        for (int t = 0; t < dist.length; t++) {
            due("DIST behind " + t, dist(y, t, 0), dist[t]);
            due("PACE behind " + t, y.watch(1, t, 0, 1), pace[t]);
            due("the other one's DIST behind " + t, dist(y, t, 1), 50);
            due("it is not HELD", held(y, t, 0), 0);
        }
    }

    private static void heldAt(int from, int pace, int to, int isHeld) {
        FootOut x = with("lanes 2;car 0 at 10 pace 1 kind 1;car 0 at " + from + " pace " + pace + " kind 0;car 1 at 20 pace 1 kind 0;gap 20;", "stop 100 if kind 1;");
        due("from " + from + " with " + pace, dist(x, 1, 1), to);
        due("HELD from " + from + " with " + pace, held(x, 1, 1), isHeld);
        due("its PACE stays", x.watch(1, 1, 1, 1), pace);
    }

    /** No nearer than 2 yards behind one that stops or is HELD; HELD if it goes less far; it never goes back. */
    private static void heldCars() {
        heldAt(14, 1, 13, 0);
        heldAt(14, 2, 12, 0);
        heldAt(14, 3, 12, 1);
        heldAt(14, 9, 12, 1);
        heldAt(13, 1, 12, 0);
        heldAt(13, 2, 12, 1);
        heldAt(12, 1, 12, 1);
        heldAt(11, 1, 11, 1);
        heldAt(10, 9, 10, 1);
        heldAt(9, 1, 8, 0);
        // A HELD one holds the next, one that goes on freely doesn't.
        FootOut x = with("lanes 2;car 0 at 10 pace 1 kind 1;car 0 at 12 pace 3 kind 0;car 0 at 16 pace 3 kind 0;car 1 at 20 pace 1 kind 0;gap 20;", "stop 100 if kind 1;");
        due("behind a HELD one", dist(x, 1, 2), 14);
        due("is HELD", held(x, 1, 2), 1);
        FootOut y = with("car 0 at 10 pace 1 kind 0;car 0 at 11 pace 9 kind 0;gap 20;waits 60;", "");
        due("by one that goes on", dist(y, 1, 1), 2);
        due("it isn't HELD", held(y, 1, 1), 0);
        due("in another lane", with("lanes 2;car 0 at 10 pace 1 kind 1;car 1 at 11 pace 9 kind 0;gap 20;waits 60;", "stop 100 if kind 1;").watch(1, 1, 1, 0), 2);
        // The stopping one comes to 0 in TICK 2: it holds nobody any more.
        FootOut z = with("car 0 at 3 pace 3 kind 1;car 0 at 9 pace 3 kind 0;gap 20;waits 60;", "stop 100 if kind 1;");
        due("no car at 0 holds", dist(z, 2, 1), 3);
        due("not HELD", held(z, 2, 1), 0);
        // HELD in TICK 1, free again in TICK 2.
        FootOut f = with("lanes 2;car 0 at 3 pace 3 kind 1;car 0 at 5 pace 4 kind 0;car 1 at 20 pace 1 kind 0;gap 20;", "stop 100 if kind 1;");
        due("HELD in TICK 1", held(f, 1, 1), 1);
        due("at 3", dist(f, 1, 1), 3);
        due("no more in TICK 2", held(f, 2, 1), 0);
        due("it goes", dist(f, 2, 1), -1);
        // HELD in TICK 1, beyond SIGHT; it decides to stop in TICK 2, and who stops isn't HELD.
        FootOut s = with("car 0 at 10 pace 3 kind 1;car 0 at 12 pace 4 kind 0;gap 20;sight 10;", ALL);
        due("HELD in TICK 1", held(s, 1, 1), 1);
        due("at 10", dist(s, 1, 1), 10);
        due("it stops in TICK 2", mind(s, 2, 1), STOPS);
        due("no more HELD", held(s, 2, 1), 0);
        due("an undecided one is HELD too", with("lanes 2;car 0 at 10 pace 1 kind 1;car 0 at 14 pace 9 kind 0;car 1 at 20 pace 1 kind 0;gap 20;sight 10;",
                ALL).watch(1, 1, 1, 0), 12);
    }

    /** The nearest of those ahead that stop or are HELD. */
    private static void nearestOne() {
        FootOut x = with("lanes 2;car 0 at 5 pace 1 kind 1;car 0 at 10 pace 1 kind 1;car 0 at 14 pace 9 kind 0;car 1 at 20 pace 1 kind 0;gap 20;", "stop 100 if kind 1;");
        due("the nearer one", dist(x, 1, 2), 12);
        // Two at 10: the first stands, the second rolls to 8; the one behind is held by the first.
        FootOut y = with("lanes 2;car 0 at 10 pace 1 kind 1;car 0 at 10 pace 3 kind 1;car 0 at 14 pace 9 kind 0;car 1 at 20 pace 1 kind 0;gap 20;", "stop 100 if kind 1;");
        due("the one that went on farther isn't", dist(y, 1, 1), 8);
        due("the nearer of both", dist(y, 1, 2), 12);
    }

    /** The least DIST first, of like ones the least number. */
    private static void orderOfGoing() {
        FootOut x = with("lanes 2;car 0 at 14 pace 9 kind 0;car 0 at 10 pace 1 kind 1;car 1 at 20 pace 1 kind 0;gap 20;", "stop 100 if kind 1;");
        due("the farther one goes later", dist(x, 1, 0), 12);
        FootOut y = with("lanes 2;car 0 at 10 pace 9 kind 0;car 0 at 10 pace 1 kind 1;car 1 at 20 pace 1 kind 0;gap 20;", "stop 100 if kind 1;");
        due("of like ones the first goes first", dist(y, 1, 0), 1);
        FootOut z = with("lanes 2;car 0 at 10 pace 1 kind 1;car 0 at 10 pace 9 kind 0;car 1 at 20 pace 1 kind 0;gap 20;", "stop 100 if kind 1;");
        due("and the second is HELD", dist(z, 1, 1), 10);
        // So in each TICK: car 1 stands at 10 all the time, car 0 comes from behind it.
        FootOut e = with("lanes 2;car 0 at 30 pace 3 kind 0;car 0 at 10 pace 1 kind 1;car 1 at 20 pace 1 kind 0;gap 20;", "stop 100 if kind 1;");
        for (int t = 0; t <= 10; t++) {
            due("behind " + t, dist(e, t, 0), Math.max(12, 30 - 3 * t));
            due("HELD behind " + t, held(e, t, 0), t > 6 ? 1 : 0);
        }
        // Alike behind TICK 1, by numbers in TICK 2, whoever was ahead before.
        String end = "car 1 at 20 pace 1 kind 0;gap 20;sight 10;";
        FootOut a = with("lanes 2;car 0 at 12 pace 2 kind 0;car 0 at 11 pace 1 kind 1;" + end, "stop 100 if kind 1;");
        due("the first goes on", dist(a, 2, 0), 8);
        due("the second stands", dist(a, 2, 1), 10);
        FootOut b = with("lanes 2;car 0 at 12 pace 2 kind 1;car 0 at 11 pace 1 kind 0;" + end, "stop 100 if kind 1;");
        due("the first stops", dist(b, 2, 0), 9);
        due("the second is HELD", held(b, 2, 1), 1);
        due("where it was", dist(b, 2, 1), 10);
        // By the DIST of this TICK, not as told: car 0 passes car 1 in TICK 1, and stops ahead of it.
        FootOut p = with("lanes 2;car 0 at 45 pace 9 kind 1;car 0 at 40 pace 1 kind 0;car 1 at 20 pace 1 kind 0;gap 20;sight 39;", "stop 100 if kind 1;");
        due("it has passed", dist(p, 1, 0), 36);
        due("the other one", dist(p, 1, 1), 39);
        due("it rolls on at 8", dist(p, 2, 0), 28);
        due("the other one goes", dist(p, 2, 1), 38);
    }

    /** KNOCKED: a car of her lane got from above 0 to 0 or below in this TICK; the first by numbers. */
    private static void knocked() {
        for (int dist = 1; dist <= 4; dist++) {
            FootOut x = with("car 0 at " + dist + " pace 3 kind 0;gap 0;waits 0;", "");
            due("from " + dist + " with 3", x.run(1, 0), dist <= 3 ? 2 : 1);
            due("by it", x.run(1, 3), dist <= 3 ? 0 : -1);
            due("HARM", x.run(1, 2), dist <= 3 ? 9 : 0);
        }
        FootOut x = with("car 0 at 3 pace 4 kind 0;car 0 at 1 pace 9 kind 0;car 0 at 2 pace 5 kind 0;gap 0;", "");
        due("the first by numbers", x.run(1, 3), 0);
        due("its HARM", x.run(1, 2), 16);
        FootOut y = with("car 0 at 30 pace 4 kind 0;car 0 at 1 pace 9 kind 0;car 0 at 2 pace 5 kind 0;gap 0;", "");
        due("of those that got there", y.run(1, 3), 1);
        FootOut z = with("lanes 2;car 1 at 1 pace 9 kind 0;gap 0;", "");
        due("a car of another lane", z.run(1, 0), 1);
        // In TICK 1 a car goes by as she is at the kerb; it is at 0 when she steps out in TICK 2.
        FootOut g = with("car 0 at 3 pace 3 kind 0;gap 1;", "");
        due("one that is at 0 already", g.run(1, 0), 1);
        due("in TICK 2", g.run(1, 1), 2);
        FootOut o = with("car 0 at 6 pace 3 kind 0;gap 0;old;", "");
        due("in the second TICK of an old one", o.run(1, 0), 2);
        due("behind two", o.run(1, 1), 2);
    }

    /** HARM: its PACE times PACE as it then is, twice that with old. */
    private static void harm() {
        for (int pace = 1; pace <= 9; pace++) {
            FootOut x = with("car 0 at 1 pace " + pace + " kind 0;gap 0;waits 0;", "");
            due("HARM of " + pace, x.run(1, 2), pace * pace);
            x.trait(0, true);
            due("HARM of " + pace + " with old", x.run(1, 2), 2 * pace * pace);
            x.trait(6, true);
            due("HARM of " + pace + " with old and hump", x.run(1, 2), 2 * Math.min(4, pace) * Math.min(4, pace));
        }
        FootOut x = with("car 0 at 3 pace 3 kind 0;old;", ALL);
        due("one that stops comes to 0", x.run(1, 0), 2);
        due("with PACE 1", x.run(1, 2), 2);
        x.set(0, 1);
        due("with LINE 1 it can't stop", x.run(1, 4), 0);
    }

    /** One TICK in a LANE, two with old; past all LANES she is OVER. */
    private static void past() {
        for (int lanes = 1; lanes <= 4; lanes++) {
            FootOut x = with("lanes " + lanes + ";", "");
            due("over " + lanes, x.run(1, 1), lanes);
            for (int t = 0; t <= lanes; t++) {
                due("behind " + t + " TICKS", x.stands(1, t), 10 * t);
            }
            x.trait(0, true);
            due("over " + lanes + " with old", x.run(1, 1), 2 * lanes);
            for (int t = 0; t <= 2 * lanes; t++) {
                due("with old behind " + t, x.stands(1, t), 10 * (t / 2) + t % 2);
            }
            due("it ends OVER", x.run(1, 0), 1);
            due("no more than it has", x.stands(1, 99), 10 * lanes);
        }
    }

    /** She stood there a TICK more if she is at the kerb at its end. */
    private static void stoodAtTheKerb() {
        due("none", with("", "").run(1, 5), 0);
        due("two", with("car 0 at 2 pace 1 kind 0;", "").run(1, 5), 2);
        due("with old too", with("car 0 at 2 pace 1 kind 0;old;", "").run(1, 5), 2);
        due("KNOCKED in the first LANE she isn't there", with("car 0 at 2 pace 1 kind 0;waits 1;", "").run(1, 5), 1);
        due("nor behind it", with("lanes 2;car 1 at 20 pace 1 kind 0;gap 20;", "").run(1, 5), 0);
    }

    /** It ends behind 99 TICKS; OVER or KNOCKED in the 99th it ends so. */
    private static void ninetyNineTicks() {
        String till80 = "lanes 2;car 1 at 20 pace 1 kind 0;car 1 at 40 pace 1 kind 0;car 1 at 60 pace 1 kind 0;car 1 at 80 pace 1 kind 0;gap 20;";
        int[][] due = {{97, 1, 98}, {98, 1, 99}, {99, 3, 99}, {100, 3, 99}};
        for (int[] d : due) {
            FootOut x = with(till80 + "car 1 at " + d[0] + " pace 1 kind 0;", "");
            due("how it ends by one at " + d[0], x.run(1, 0), d[1]);
            due("behind how many", x.run(1, 1), d[2]);
            due("tries(1, 60, " + d[1] + ")", x.tries(1, 60, d[1]), 60);
            due("tries(1, 60, 5)", x.tries(1, 60, 5), 60 * d[2]);
            long all = 10000000000L;
            due("PARTS", x.odds(d[1] == 1 ? 0 : 2), all);
            due("TICKS", x.odds(3), d[2] * all);
            due("where she is", x.stands(1, 99), d[1] == 1 ? 20 : 10);
        }
        // It decides to stop at 1 in TICK 99, comes to 0 with PACE 1, and she has just stepped out.
        FootOut k = with(till80 + "car 1 at 197 pace 2 kind 0;sight 1;", "stop 100 if fast 2;");
        due("KNOCKED in TICK 99", k.run(1, 0), 2);
        due("behind 99", k.run(1, 1), 99);
        due("HARM", k.run(1, 2), 1);
        due("in a LANE", k.stands(1, 99), 11);
        due("ahead of it she stands", k.stands(1, 98), 10);
    }

    private static int next(int x) {
        long wide = (1103515245L * (x & 0xffffffffL) + 12345L) & 0xffffffffL;
        return (int) wide;
    }

    private static int draw(int x) {
        return (int) ((x & 0xffffffffL) >> 16) % 100;
    }

    /** A DRAW modulo 100 below N: it stops; none where N is 0 or 100, or it can't. */
    private static void draws() {
        for (int seed : new int[] {0, 1, -1, 7, 4711, Integer.MAX_VALUE, Integer.MIN_VALUE, Integer.MIN_VALUE + 1, 123456789, -987654321}) {
            int first = draw(next(seed));
            int second = draw(next(next(seed)));
            for (int n = 0; n <= 100; n++) {
                FootOut x = with("car 0 at 30 pace 1 kind 1;car 0 at 35 pace 1 kind 2;gap 20;", "stop " + n + " if kind 1;stop 50 if kind 2;");
                boolean drawn = n > 0 && n < 100;
                int bits = (n == 100 || drawn && first < n ? 1 : 0) | ((drawn ? second : first) < 50 ? 2 : 0);
                due("seed " + seed + " with " + n, x.run(seed, 4), bits);
            }
            FootOut x = with("car 0 at 30 pace 9 kind 1;car 0 at 35 pace 1 kind 2;gap 20;", "stop 99 if kind 1;stop 50 if kind 2;");
            due("one that can't takes no DRAW", x.run(seed, 4), first < 50 ? 2 : 0);
        }
    }

    /** A SEED is an int: behind the greatest comes the least. */
    private static void seedsWrap() {
        FootOut x = with("car 0 at 12 pace 3 kind 0;gap 20;waits 3;", "stop 50 if near 30;");
        for (int s : new int[] {Integer.MAX_VALUE, Integer.MAX_VALUE - 1, Integer.MAX_VALUE - 30, -30, -1, Integer.MIN_VALUE}) {
            for (int n : new int[] {1, 2, 59, 60}) {
                int[] due = new int[6];
                for (int i = 0; i < n; i++) {
                    due[x.run(s + i, 0)]++;
                    due[4] += x.run(s + i, 2);
                    due[5] += x.run(s + i, 1);
                }
                for (int how = 1; how <= 5; how++) {
                    due("tries(" + s + ", " + n + ", " + how + ")", x.tries(s, n, how), due[how]);
                }
            }
        }
        due("one of them", x.tries(Integer.MAX_VALUE, 2, 1),
                x.tries(Integer.MAX_VALUE, 1, 1) + x.tries(Integer.MIN_VALUE, 1, 1));
    }

    private static void triesBounds() {
        FootOut x = with("", "");
        due("n 1", x.tries(0, 1, 1), 1);
        due("n 60", x.tries(0, 60, 1), 60);
        due("n 0", x.tries(0, 0, 1), -3);
        due("n 61", x.tries(0, 61, 1), -3);
        due("n -1", x.tries(0, -1, 5), -3);
        due("n least", x.tries(0, Integer.MIN_VALUE, 5), -3);
        due("n greatest", x.tries(0, Integer.MAX_VALUE, 5), -3);
        for (int how : new int[] {Integer.MIN_VALUE, -1, 0, 6, Integer.MAX_VALUE}) {
            due("how " + how, x.tries(0, 1, how), -2);
            due("how ahead of n", x.tries(0, 61, how), -2);
        }
        due("how 5", x.tries(0, 60, 5), 60);
        due("how 4", x.tries(0, 60, 4), 0);
        due("status(0)", x.status(0), 10);
        due("status(1)", x.status(1), 5);
    }

    private static void runAndWatchBounds() {
        FootOut x = with("lanes 2;car 1 at 4 pace 1 kind 0;", "");
        due("it ends behind", x.run(1, 1), 5);
        for (int what : new int[] {Integer.MIN_VALUE, -1, 6, Integer.MAX_VALUE}) {
            due("run what " + what, x.run(1, what), -2);
        }
        due("stands t 0", x.stands(1, 0), 0);
        due("stands t 4", x.stands(1, 4), 10);
        due("stands t 5", x.stands(1, 5), 20);
        due("stands t 6: no more than it has", x.stands(1, 6), 20);
        due("stands t 99", x.stands(1, 99), 20);
        for (int t : new int[] {Integer.MIN_VALUE, -1, 100, Integer.MAX_VALUE}) {
            due("stands t " + t, x.stands(1, t), -3);
            due("watch t " + t, x.watch(1, t, 0, 0), -1000);
        }
        int[] dist = {4, 3, 2, 1, 0, 0};
        for (int t = 0; t < dist.length; t++) {
            due("watch t " + t, x.watch(1, t, 0, 0), dist[t]);
        }
        due("watch t 99", x.watch(1, 99, 0, 0), 0);
        for (int c : new int[] {Integer.MIN_VALUE, -1, 1, 8, Integer.MAX_VALUE}) {
            due("watch c " + c, x.watch(1, 0, c, 0), -1000);
        }
        for (int what : new int[] {Integer.MIN_VALUE, -1, 4, Integer.MAX_VALUE}) {
            due("watch what " + what, x.watch(1, 0, 0, what), -1000);
        }
        due("status(0)", x.status(0), 4 + 4 + 5 + 4);
        due("status(1)", x.status(1), 4);
        // A DIST of a car may be below 0, down to 8, which is no code.
        due("a DIST below 0", with("lanes 2;car 1 at 1 pace 9 kind 0;", "").watch(1, 99, 0, 0), -8);
    }

    /** PARTS of 100 to the number of CARS, 1 without. */
    private static void oddsBounds() {
        long all = 1;
        StringBuilder scene = new StringBuilder("gap 0;waits 0;");
        for (int cars = 0; cars <= 8; cars++) {
            FootOut x = with(scene.toString(), "stop 1 if kind 3;");
            due("all of " + cars, x.odds(5), all);
            due("they end so", x.odds(0) + x.odds(1) + x.odds(2), all);
            due("one of a hundred stops", cars == 0 ? 0 : x.blame(0, 1), all / 100);
            scene.append("car 0 at 1 pace 1 kind 3;");
            all *= 100;
        }
        FootOut x = with("car 0 at 1 pace 9 kind 0;".repeat(8) + "gap 0;waits 0;old;", "stop 99 if kind 0;");
        due("the greatest HARM", x.odds(4), 162L * 10000000000000000L);
        due("none can stop: 100 each", x.odds(1), 10000000000000000L);
        FootOut y = with("lanes 2;" + "car 0 at 200 pace 1 kind 0;".repeat(2) + "car 0 at 30 pace 1 kind 0;", "stop 40 if kind 0;");
        due("two never decide: 100 each", y.odds(0), 1000000);
        due("the third does", y.blame(2, 1), 400000);
        due("they don't", y.blame(0, 1), 0);
        for (int what : new int[] {Integer.MIN_VALUE, -1, 6, Integer.MAX_VALUE}) {
            due("odds(" + what + ")", y.odds(what), -2);
        }
        due("status(0)", y.status(0), 4);
        FootOut e = new FootOut();
        long[] due = {1, 0, 0, 1, 0, 1};
        for (int what = 0; what < 6; what++) {
            due("of the empty ones: odds(" + what + ")", e.odds(what), due[what]);
        }
        for (int n : new int[] {1, 50, 99}) {
            FootOut z = with("car 0 at 1 pace 1 kind 0;gap 0;waits 0;", "stop " + n + " if near 2;");
            due("OVER: N", z.odds(0), n);
            due("KNOCKED: 100 less N", z.odds(1), 100 - n);
        }
    }

    /** Promises 15, 16: the TRAIT is otherwise than it is; sets of 0 to 3. */
    private static void bestBounds() {
        for (int trait = 0; trait < 8; trait++) {
            String word = new String[] {"old", "pram", "foot", "eye", "two", "lamp", "hump", "paint"}[trait];
            FootOut x = with("car 0 at 6 pace 3 kind 0;gap 20;waits 0;", "stop 60 if " + word + ";stop 20 if lane 0;");
            long now = x.odds(0);
            x.trait(trait, true);
            long then = x.odds(0);
            due("helps(" + trait + ") no more", x.helps(trait), now - then);
            x.trait(trait, false);
            due("helps(" + trait + ")", x.helps(trait), then - now);
            due("it stays untold", x.count(2), 0);
        }
        FootOut x = with("car 0 at 3 pace 3 kind 0;gap 20;waits 0;", "stop 60 if pram and eye and lamp;stop 20 if pram and eye;stop 10 if pram;");
        due("k 0", x.best(0), 0);
        due("k 1", x.best(1), 2);
        due("k 2", x.best(2), 2 | 8);
        due("k 3", x.best(3), 2 | 8 | 32);
        due("no set is told", x.count(2), 0);
        for (int k : new int[] {Integer.MIN_VALUE, -1, 4, Integer.MAX_VALUE}) {
            due("k " + k, x.best(k), -3);
            due("helps", x.helps(k == 4 ? 8 : k), -2);
        }
        due("status(1)", x.status(1), 4);
        due("status(0)", x.status(0), 4);
        FootOut e = new FootOut();
        int[] like = {0, 1, 3, 7};
        for (int k = 0; k <= 3; k++) {
            due("of like ones the least bits", e.best(k), like[k]);
        }
    }

    /** RUNS and ODDS, asked one behind the other, of one SCENE behind the other, don't disturb one another. */
    private static void runsAndOdds() {
        FootOut x = with("car 0 at 1 pace 1 kind 0;car 0 at 1 pace 1 kind 0;gap 0;waits 0;", "stop 30 if lane 0;");
        for (int seed = 0; seed < 20; seed++) {
            int first = x.run(seed, 4);
            x.set(2, seed);
            due("KNOCKED", x.odds(1), 7000);
            due("of as many", x.odds(5), 10000);
            due("the first stops", x.blame(0, 1), 3000);
            due("the second stops", x.blame(1, 1), 3000);
            due("the first knocks her down", x.blame(0, 0), 7000);
            due("the RUN as it was", x.run(seed, 4), first);
            due("if old", x.helps(0), 0);
            due("without the first", x.absent(0), 0);
        }
        Check.scene(x, "car 0 at 1 pace 1 kind 0;car 0 at 200 pace 1 kind 0;");
        due("it stops", x.blame(0, 1), 3000);
        due("the second no more", x.blame(1, 1), 0);
        due("nor does it knock her down", x.blame(0, 0), 0);
    }

    /** All that is asked of a car, and by cars of one another, with eight of them. */
    private static void eightCars() {
        StringBuilder scene = new StringBuilder("lanes 4;gap 20;waits 60;sight 200;");
        for (int c = 0; c < 8; c++) {
            scene.append("car ").append(c % 4).append(" at ").append(20 + 10 * c).append(" pace 2 kind ").append(c % 3).append(";");
        }
        FootOut x = with(scene.toString(), "stop 0 if kind 1;stop 100 if ahead;stop 100 if beside;stop 0 if passed;");
        due("none stops", x.run(1, 4), 0);
        Check.law(x, "stop 100 if passed;");
        due("0 goes on, and 4 behind it", x.run(1, 4), 255 - (1 << 0) - (1 << 4));
        Check.law(x, "stop 100 if kind 2 or ahead;");
        due("2, behind it 6, and 5", x.run(1, 4), 1 << 2 | 1 << 5 | 1 << 6);
        Check.law(x, "stop 100 if kind 2 or beside;");
        due("2, beside it 3, then 4 by none, 5 by itself, 6 and 7", x.run(1, 4), 1 << 2 | 1 << 3 | 1 << 5 | 1 << 6 | 1 << 7);
        Check.law(x, "stop 50 if lane 0;stop 50 if lane 1;");
        x.trait(0, true);
        due("PARTS", x.odds(0) + x.odds(1) + x.odds(2), 10000000000000000L);
        Check.law(x, "");
        due("the nearest in her lane", x.margin(1), -1);
        Check.scene(x, "old;" + "car 0 at 100 pace 1 kind 0;".repeat(8));
        due("the nearest of eight", x.margin(1), 99);
    }

    /** Promise 16: TRAITS that THE LAW doesn't ask for count by what they do; told ones are taken away. */
    private static void bestSets() {
        // She is over in TICK 1, an old one is in the LANE still when the car comes.
        due("not old", with("car 0 at 6 pace 3 kind 0;gap 0;", "").best(1), 2);
        due("no more old", with("car 0 at 6 pace 3 kind 0;gap 0;old;", "").best(1), 1);
        due("hump: it can stop", with("car 0 at 9 pace 9 kind 0;gap 20;waits 0;", ALL).best(1), 64);
        due("pram no more", with("car 0 at 3 pace 3 kind 0;gap 20;waits 0;pram;", "stop 0 if pram;stop 50 if lane 0;").best(1), 2);
        due("pram no more, and eye", with("car 0 at 3 pace 3 kind 0;gap 20;waits 0;pram;", "stop 0 if pram;stop 50 if eye;").best(2), 10);
        // Each TRAIT otherwise is worse: of these the least bad, and no set of fewer.
        String all = "pram;foot;eye;two;lamp;paint;";
        String law = "stop 90 if pram and foot and eye and two and lamp and paint and not old and not hump;"
                + "stop 10 if not eye;stop 20 if not lamp and not eye;stop 60 if not two;";
        FootOut x = with("car 0 at 3 pace 3 kind 0;gap 20;waits 0;" + all, law);
        due("none", x.best(0), 0);
        due("the least bad", x.best(1), 16);
        due("old would be worse", x.best(2), 2 | 16);
        due("the least bad three", x.best(3), 2 | 4 | 16);
    }

    /** Promise 17: LINE 0 to 30, at most so many of a thousand. */
    private static void backBounds() {
        FootOut x = with("car 0 at 1 pace 1 kind 0;gap 0;waits 0;", "stop 25 if near 2;");
        due("75 of 100 are KNOCKED", x.odds(1), 75);
        due("749 of a thousand", x.back(749), -1);
        due("750 of a thousand", x.back(750), 0);
        due("1000 of a thousand", x.back(1000), 0);
        due("0 of a thousand", x.back(0), -1);
        for (int most : new int[] {Integer.MIN_VALUE, -1, 1001, Integer.MAX_VALUE}) {
            due("back(" + most + ")", x.back(most), -3);
        }
        due("status(1)", x.status(1), 4);
        due("LINE stays", x.count(3), 0);
        due("NONE is no refusal", x.status(0), 0);
        due("without cars", new FootOut().back(0), 0);
        due("without cars", new FootOut().back(1000), 0);
        // Car 0 holds all others or knocks her down: 75 of 100, of whatever PARTS there are; 749 and 751 are no fewer PARTS of 100.
        StringBuilder scene = new StringBuilder("gap 0;waits 0;");
        for (int cars = 1; cars <= 8; cars++) {
            scene.append("car 0 at 1 pace 1 kind 0;");
            FootOut of = with(scene.toString(), "stop 25 if near 2;");
            due("750 of " + cars, of.back(750), 0);
            due("751 of " + cars, of.back(751), 0);
            due("749 of " + cars, of.back(749), -1);
            due("740 of " + cars, of.back(740), -1);
            Check.law(of, "stop 99 if near 2;");
            due("10 of " + cars, of.back(10), 0);
            due("9 of " + cars, of.back(9), -1);
        }
        // Only if both stop, with 27 and 37 of 100, she is OVER: 9001 of 10000 are KNOCKED, which is more than 900 of a thousand.
        String two = "lanes 2;gap 0;waits 0;car 0 at 1 pace 1 kind 0;car 1 at 2 pace 1 kind 0;";
        String law = "stop 27 if lane 0;stop 37 if lane 1;";
        due("9001 of 10000", with(two, law).odds(1), 9001);
        for (int more = 0; more <= 6; more++) {
            FootOut of = with(two + "car 1 at 200 pace 1 kind 0;".repeat(more), law);
            due("900 with " + more + " more", of.back(900), -1);
            due("901 with " + more + " more", of.back(901), 0);
        }
        FootOut y = with("car 0 at 3 pace 1 kind 0;gap 0;", ALL);
        y.set(0, 30);
        due("the LINE as it is doesn't matter", y.back(0), 0);
        due("and stays", y.count(3), 30);
    }

    /** Promise 18: WAITS 0 to 60, GAP 0 to 20, the least of like ones. */
    private static void wiseBounds() {
        FootOut e = new FootOut();
        due("wise(0) of none", e.wise(0), 0);
        due("wise(1) of none", e.wise(1), 0);
        for (int what : new int[] {Integer.MIN_VALUE, -1, 2, Integer.MAX_VALUE}) {
            due("wise(" + what + ")", e.wise(what), -2);
        }
        due("status(0)", e.status(0), 4);
        // The last of these comes to 0 in TICK 60; GAP 20 is never FREE ahead of it.
        FootOut x = with("car 0 at 60 pace 1 kind 0;car 0 at 58 pace 1 kind 0;car 0 at 40 pace 1 kind 0;car 0 at 20 pace 1 kind 0;gap 20;old;sight 1;", "");
        x.set(2, 59);
        due("with WAITS 59 she is KNOCKED", x.odds(1), 100000000);
        x.set(2, 60);
        due("with WAITS 60 she is OVER", x.odds(0), 100000000);
        due("of like ones the least", x.wise(0), 0);
        FootOut y = with("car 0 at 1 pace 1 kind 0;car 0 at 2 pace 1 kind 0;car 0 at 3 pace 1 kind 0;gap 20;old;", "");
        due("each TICK one comes", y.wise(0), 3);
        due("GAP 1 keeps her back", y.wise(1), 1);
        Check.scene(y, "car 0 at 2 pace 1 kind 0;old;");
        due("an old one needs GAP 2", y.wise(1), 2);
        Check.scene(y, "car 0 at 3 pace 1 kind 0;old;");
        due("by then she is over", y.wise(1), 0);
        wiseAtTheEnds();
    }

    /** The greatest WAITS and GAP may be the only ones by which she comes over. */
    private static void wiseAtTheEnds() {
        // Cars of both lanes keep her back till TICK 60. If she is behind lane 0 by then, car 6 stops at 1, stands and hides
        // car 7, which knocks her down in TICK 61; if she is at the kerb still, both go by.
        StringBuilder scene = new StringBuilder("lanes 2;gap 20;sight 1;");
        for (int lane = 0; lane < 2; lane++) {
            for (int dist = 20; dist <= 60; dist += 20) {
                scene.append("car ").append(lane).append(" at ").append(dist).append(" pace 1 kind 0;");
            }
        }
        scene.append("car 0 at 60 pace 1 kind 1;car 1 at 183 pace 3 kind 0;");
        FootOut x = with(scene.toString(), "stop 100 if in and kind 1;");
        due("wise(0)", x.wise(0), 60);
        x.set(2, 59);
        due("with 59 none", x.odds(0), 0);
        x.set(2, 60);
        due("with 60 all", x.odds(0), x.odds(5));
        x.set(2, 20);
        due("with 20 hidden", x.run(1, 3), 7);
        // GAP 20 keeps her back from car 0; else she is behind lane 0 in TICK 2, so car 1 stops, and comes to 0.
        FootOut y = with("lanes 2;car 0 at 20 pace 1 kind 0;car 1 at 3 pace 2 kind 0;sight 2;", "stop 100 if in and lane 1;");
        due("wise(1)", y.wise(1), 20);
        y.set(1, 19);
        due("with 19 none", y.odds(0), 0);
        y.set(1, 20);
        due("with 20 all", y.odds(0), y.odds(5));
    }

    private static void blameBounds() {
        FootOut x = with("car 0 at 1 pace 1 kind 0;car 0 at 200 pace 1 kind 0;gap 0;waits 0;", "stop 30 if kind 0;");
        due("it knocks her down", x.blame(0, 0), 7000);
        due("it stops", x.blame(0, 1), 3000);
        due("the other one doesn't", x.blame(1, 0), 0);
        due("nor does it stop", x.blame(1, 1), 0);
        for (int bad : new int[] {Integer.MIN_VALUE, -1, 2, Integer.MAX_VALUE}) {
            due("blame(" + bad + ", 0)", x.blame(bad, 0), -2);
            due("blame(0, " + bad + ")", x.blame(0, bad), -2);
        }
        due("status(0)", x.status(0), 8);
        due("of none", new FootOut().blame(0, 0), -2);
    }

    private static void meanBounds() {
        FootOut e = new FootOut();
        due("above, without cars", e.mean(0), 1);
        due("below, without cars", e.mean(1), 1);
        for (int what : new int[] {Integer.MIN_VALUE, -1, 2, Integer.MAX_VALUE}) {
            due("mean(" + what + ")", e.mean(what), -2);
        }
        due("status(0)", e.status(0), 4);
        // Over in TICK 1 with N of 100, else in TICK 2.
        for (int n : new int[] {1, 20, 50, 75, 99}) {
            FootOut x = with("car 0 at 1 pace 1 kind 0;", "stop " + n + " if near 2;");
            long above = n + 2 * (100 - n);
            long common = java.math.BigInteger.valueOf(above).gcd(java.math.BigInteger.valueOf(100)).longValue();
            due("above of " + n, x.mean(0), above / common);
            due("below of " + n, x.mean(1), 100 / common);
        }
    }

    /** Promise 21: line k from 0 on. */
    private static void repealsBounds() {
        FootOut x = with("car 0 at 1 pace 1 kind 0;waits 0;", "stop 20 if near 1;stop 30 if near 2;stop 70 if near 3;");
        due("OVER now", x.odds(0), 30);
        due("one that doesn't count", x.repeals(0), 0);
        due("the one that does", x.repeals(1), 40);
        due("the last", x.repeals(2), 0);
        due("behind the last", x.repeals(3), -2);
        due("-1", x.repeals(-1), -2);
        due("least of all", x.repeals(Integer.MIN_VALUE), -2);
        due("greatest of all", x.repeals(Integer.MAX_VALUE), -2);
        due("they stay three", x.count(7), 3);
        due("status(0)", x.status(0), 4);
        due("of an empty LAW", new FootOut().repeals(0), -2);
        Check.law(x, "stop 30 if near 2;");
        due("the only one", x.repeals(0), -30);
        // -2 may be a sum as well: then it isn't counted.
        Check.law(x, "stop 2 if near 2;");
        due("two PARTS less", x.repeals(0), -2);
        due("not counted", x.status(0), 4);
    }

    /** Promise 22: 100 times those without it, less those now. */
    private static void absentBounds() {
        FootOut x = with("car 0 at 1 pace 1 kind 0;car 0 at 3 pace 3 kind 1;gap 0;waits 0;old;", "stop 30 if kind 0;");
        long now = x.odds(1);
        Check.scene(x, "car 0 at 3 pace 3 kind 1;gap 0;waits 0;old;");
        long withoutFirst = x.odds(1);
        Check.scene(x, "car 0 at 1 pace 1 kind 0;gap 0;waits 0;old;");
        long withoutLast = x.odds(1);
        Check.scene(x, "car 0 at 1 pace 1 kind 0;car 0 at 3 pace 3 kind 1;gap 0;waits 0;old;");
        due("without the first", x.absent(0), 100 * withoutFirst - now);
        due("without the last", x.absent(1), 100 * withoutLast - now);
        Check.isTrue("they differ", x.absent(0) != x.absent(1));
        for (int bad : new int[] {Integer.MIN_VALUE, -1, 2, Integer.MAX_VALUE}) {
            due("absent(" + bad + ")", x.absent(bad), -2);
        }
        due("status(0)", x.status(0), 4);
        due("both stay", x.count(1), 2);
        due("of none", new FootOut().absent(0), -2);
        FootOut e = with("car 0 at 1 pace 1 kind 0;".repeat(8) + "gap 0;waits 0;", "");
        due("of eight", e.absent(7), 0);
        withoutEach();
        due("the only one", with("car 0 at 1 pace 1 kind 0;gap 0;waits 0;", "").absent(0), -100);
        // -2 may be a sum as well: then it isn't counted.
        FootOut two = with("car 0 at 1 pace 1 kind 0;gap 0;waits 0;", "stop 98 if near 2;");
        due("two PARTS less", two.absent(0), -2);
        due("not counted", two.status(0), 0);
    }

    /** Without a car all others are as they were: their lanes, DIST, PACE and KIND. */
    private static void withoutEach() {
        String[][] scenes = {
            {"lanes 3;old;gap 2;waits 2;", "car 0 at 5 pace 3 kind 0;", "car 0 at 1 pace 2 kind 1;", "car 1 at 18 pace 3 kind 0;",
                "car 0 at 3 pace 2 kind 2;", "car 0 at 14 pace 7 kind 3;", "car 0 at 20 pace 5 kind 3;"},
            {"lanes 2;old;gap 1;waits 2;", "car 1 at 3 pace 3 kind 2;", "car 1 at 4 pace 3 kind 3;", "car 0 at 5 pace 6 kind 1;",
                "car 0 at 10 pace 7 kind 2;", "car 1 at 11 pace 2 kind 1;", "car 1 at 25 pace 6 kind 3;"},
            {"lanes 2;old;gap 1;waits 2;", "car 1 at 21 pace 7 kind 2;", "car 0 at 6 pace 3 kind 3;", "car 1 at 2 pace 2 kind 1;",
                "car 0 at 1 pace 1 kind 3;", "car 0 at 4 pace 1 kind 0;", "car 1 at 18 pace 1 kind 2;"}};
        String law = "stop 80 if kind 1;stop 40 if kind 2 or ahead;stop 30 if near 20 and not fast 6;stop 10 if lane 1;";
        int differ = 0;
        for (String[] scene : scenes) {
            FootOut x = with(String.join("", scene), law);
            for (int c = 0; c + 1 < scene.length; c++) {
                StringBuilder without = new StringBuilder();
                for (int i = 0; i < scene.length; i++) {
                    without.append(i == c + 1 ? "" : scene[i]);
                }
                long due = 100 * with(without.toString(), law).odds(1) - x.odds(1);
                differ += due != 0 ? 1 : 0;
                due("without " + c + " of " + String.join("", scene), x.absent(c), due);
            }
        }
        due("all make a difference", differ, 18);
    }

    /** Promise 23: above 0, of her lane, at the end of a TICK in a LANE. */
    private static void marginBounds() {
        due("none without cars", with("lanes 4;old;", "").margin(1), -1);
        due("none that is never in one at an end", with("lanes 4;car 0 at 30 pace 1 kind 0;", "").margin(1), -1);
        due("of her lane", with("lanes 2;car 1 at 30 pace 1 kind 0;car 0 at 50 pace 1 kind 0;old;", "").margin(1), 27);
        due("of a lane behind her", with("lanes 2;car 0 at 30 pace 1 kind 0;old;", "").margin(1), 29);
        due("of the nearest", with("car 0 at 50 pace 1 kind 0;car 0 at 30 pace 1 kind 0;old;", "").margin(1), 29);
        due("1 is above 0", with("car 0 at 1 pace 1 kind 0;gap 0;old;", ALL).margin(1), 1);
        due("0 is not", with("car 0 at 1 pace 1 kind 0;car 0 at 50 pace 1 kind 0;gap 1;old;", "").margin(1), 48);
        FootOut x = with("car 0 at 12 pace 3 kind 0;gap 0;old;waits 3;", "stop 50 if near 30;");
        for (int seed : new int[] {Integer.MIN_VALUE, -1, 0, 1, Integer.MAX_VALUE}) {
            due("by a SEED", x.margin(seed), (x.run(seed, 4) == 1 ? 10 : 9));
        }
        due("none is refused", x.status(0) + x.status(1), 0);
    }
}
