/** ==== 1 of the document and promises 1 to 9, a check for each bound that they name. */
public final class TextBoundsTest {
    private static final String CAR = "car 0 at 1 pace 1 kind 0;";
    private static final String[] TRAITS = {"old", "pram", "foot", "eye", "two", "lamp", "hump", "paint"};

    public static void main(String[] args) {
        atFirst();
        without();
        lengthOfTexts();
        tapeOfBytes();
        firstBytes();
        emptyTexts();
        lanes();
        lanesThatCarsNeed();
        carsLane();
        carsNumbers();
        eightCars();
        traits();
        settings();
        laterOnesCount();
        percents();
        factNumbers();
        twelveLines();
        blanks();
        words();
        digits();
        signs();
        firstAlongTheText();
        leastKind();
        theEnd();
        openOnes();
        oneBehindTheOther();
        whatThereWasStays();
        latestText();
        carAsTold();
        setBounds();
        chanceInTheFirstTick();
        canBounds();
        Check.end();
    }

    private static void due(String call, long got, long want) {
        Check.due(call, got, want);
    }

    private static void taken(int what, String text, int lines) {
        FootOut x = new FootOut();
        due("'" + text + "'", Check.read(x, what, text), lines);
        due("count of '" + text + "'", x.count(what == 0 ? 10 : 7), lines);
        due("fault(0) of '" + text + "'", x.fault(0), 0);
        due("fault(1) of '" + text + "'", x.fault(1), -1);
        due("status(5) of '" + text + "'", x.status(5), 0);
    }

    private static void faulty(int what, String text, int kind, int place) {
        FootOut x = new FootOut();
        due("'" + text + "'", Check.read(x, what, text), -30 - kind);
        due("fault(0) of '" + text + "'", x.fault(0), kind);
        due("fault(1) of '" + text + "'", x.fault(1), place);
        due("status(5) of '" + text + "'", x.status(5), 1);
        due("lines of '" + text + "'", x.count(10) + x.count(7), 0);
    }

    /** Promise 1: an empty SCENE and LAW; no PLACES. */
    private static void atFirst() {
        FootOut x = new FootOut();
        due("LINES", x.count(10), 0);
        due("CARS", x.count(1), 0);
        due("TRAITS", x.count(2), 0);
        due("lines of THE LAW", x.count(7), 0);
        due("PLACES", x.count(8), 0);
        due("bytes on THE TAPE", x.count(9), 0);
        due("no car", x.car(0, 0), -2);
        due("no line of THE LAW", x.repeals(0), -2);
        due("no PLACE", x.at(0, 0), -2);
        due("no image", x.restore(0), -5);
        due("nor the other", x.restore(1), -5);
        for (int row = 0; row < 4; row++) {
            due("ROW " + row + " is MISSING", x.write(row, 0, 1), -6);
        }
        due("MEASURES cost 1 and leave 100", x.spent(999, -1), 0);
        for (int i = 0; i < 20; i++) {
            due("PAY is 0", x.pay(i / 10, i / 5 % 2, i % 5, 0), 0);
        }
    }

    /** LANES 1, LINE 0, GAP 3, WAITS 20, SIGHT 40 without. */
    private static void without() {
        FootOut x = new FootOut();
        int[] due = {1, 0, 0, 0, 3, 20, 40};
        for (int i = 0; i < due.length; i++) {
            due("a new one's count(" + i + ")", x.count(i), due[i]);
        }
        Check.scene(x, "lanes 4;" + CAR + "old;line 1;gap 1;waits 1;sight 1;");
        Check.scene(x, "");
        for (int i = 0; i < due.length; i++) {
            due("an empty text's count(" + i + ")", x.count(i), due[i]);
        }
        Check.scene(x, "lanes 4;" + CAR + "old;line 1;gap 1;waits 1;sight 1;");
        Check.scene(x, "paint;");
        due[2] = 128;
        for (int i = 0; i < due.length; i++) {
            due("a trait alone: count(" + i + ")", x.count(i), due[i]);
        }
    }

    /** A TEXT has at most 400 bytes: as many as THE TAPE. */
    private static void lengthOfTexts() {
        taken(0, "old;".repeat(100), 100);
        taken(0, "old;" + " ".repeat(396), 1);
        taken(0, " ".repeat(396) + "old;", 1);
        taken(1, "stop 1 if old" + " or old".repeat(55) + " ;", 1);
        taken(1, "stop 1 if " + "old and ".repeat(48) + "old  ;", 1);
        due("that is 400", ("stop 1 if old" + " or old".repeat(55) + " ;").length(), 400);
        due("and that", ("stop 1 if " + "old and ".repeat(48) + "old  ;").length(), 400);
        faulty(0, "old;".repeat(99) + "old ", 2, 400);
        faulty(1, "stop 1 if old" + " or old".repeat(55) + "  ", 2, 400);
        faulty(0, " ".repeat(399) + "?", 1, 399);
    }

    /** Promise 2: twenty bytes, the highest of each int first, behind those that are there; 400, and no more. */
    private static void tapeOfBytes() {
        FootOut x = new FootOut();
        due("the first twenty", x.feed(0x6f6c643b, 0x7072616d, 0x3b666f6f, 0x743b6579, 0x653b7477), 20);
        due("behind these", x.feed(0x6f3b6c61, 0x6d703b68, 0x756d703b, 0x7061696e, 0x743b3b3b), 40);
        due("all TRAITS", x.text(0, 38), 8);
        due("told", x.count(2), 255);
        for (int i = 1; i <= 19; i++) {
            due("feed", x.feed(0x20202020, 0x20202020, 0x20202020, 0x20202020, 0x20202020), 20 * i);
        }
        due("400 bytes", x.feed(0x20202020, 0x20202020, 0x20202020, 0x20202020, 0x6779653b), 400);
        due("420 it can't have", x.feed(0x3f3f3f3f, 0x3f3f3f3f, 0x3f3f3f3f, 0x3f3f3f3f, 0x3f3f3f3f), -5);
        due("counted", x.status(2), 1);
        due("they stay 400", x.count(9), 400);
        due("and what they were", x.text(0, 400), -32);
        due("the last word begins there", x.fault(1), 396);
        due("THE TAPE is empty", x.count(9), 0);
        due("so it takes more", x.feed(0, 0, 0, 0, 0), 20);
        FootOut y = new FootOut();
        y.feed(0x6f6c643b, 0x80000000, 0, 0, 0);
        due("a byte of 128", y.text(0, 5), -31);
        due("is no TOKEN", y.fault(1), 4);
        y.feed(0x6f6c643b, 0xffffffff, 0, 0, 0);
        due("a byte of 255", y.text(0, 8), -31);
        y.feed(0x6f6c643b, 0x00202020, 0, 0, 0);
        due("a byte of 0", y.text(0, 8), -31);
    }

    /** Promise 3: n is 0 up to what there is; the bytes behind it are gone too. */
    private static void firstBytes() {
        for (int what = 0; what < 2; what++) {
            FootOut x = new FootOut();
            due("n 0 of 0", x.text(what, 0), 0);
            due("n 1 of 0", x.text(what, 1), -3);
            due("n -1 of 0", x.text(what, -1), -3);
            x.feed(0x20202020, 0x20202020, 0x20202020, 0x20202020, 0x20202020);
            due("n 21 of 20", x.text(what, 21), -3);
            due("n -1 of 20", x.text(what, -1), -3);
            due("n least of all", x.text(what, Integer.MIN_VALUE), -3);
            due("n greatest of all", x.text(what, Integer.MAX_VALUE), -3);
            due("THE TAPE stays", x.count(9), 20);
            due("n 20 of 20", x.text(what, 20), 0);
            due("THE TAPE is empty", x.count(9), 0);
            x.feed(0x20202020, 0x20202020, 0x20202020, 0x20202020, 0x20202020);
            due("n 0 of 20", x.text(what, 0), 0);
            due("THE TAPE is empty behind n 0", x.count(9), 0);
            due("status(1)", x.status(1), 6);
        }
        FootOut x = new FootOut();
        x.feed(0x6f6c643b, 0x6779653b, 0x20202020, 0x20202020, 0x20202020);
        due("only the first four", x.text(0, 4), 1);
        x.feed(0x6f6c643b, 0x6779653b, 0x20202020, 0x20202020, 0x20202020);
        due("what 2", x.text(2, 4), -2);
        due("what -1", x.text(-1, 4), -2);
        due("THE TAPE stays", x.count(9), 20);
        due("status(0)", x.status(0), 2);
    }

    /** { LINE ; } may have none. */
    private static void emptyTexts() {
        taken(0, "", 0);
        taken(1, "", 0);
        taken(0, " ", 0);
        taken(1, "\n", 0);
        FootOut x = Check.with("lanes 2;old;", "stop 5 if old;");
        due("an empty SCENE", Check.scene(x, ""), 0);
        due("LANES", x.count(0), 1);
        due("THE LAW stays", x.count(7), 1);
        due("an empty LAW", Check.law(x, ""), 0);
        due("lines", x.count(7), 0);
    }

    private static void lanes() {
        for (int n = 1; n <= 4; n++) {
            FootOut x = Check.with("lanes " + n + ";", "");
            due("LANES " + n, x.count(0), n);
        }
        faulty(0, "lanes 0;", 3, 6);
        faulty(0, "lanes 5;", 3, 6);
        faulty(0, "lanes 999;", 3, 6);
    }

    /** LANES below what a car ahead of it needs; as many as that are taken. */
    private static void lanesThatCarsNeed() {
        for (int lane = 0; lane < 4; lane++) {
            String text = "lanes 4;car " + lane + " at 1 pace 1 kind 0;lanes ";
            for (int n = 0; n <= 5; n++) {
                if (n <= lane || n > 4) {
                    faulty(0, text + n + ";", 3, text.length());
                } else {
                    taken(0, text + n + ";", 3);
                }
            }
        }
        String high = "lanes 4;car 2 at 1 pace 1 kind 0;" + CAR;
        faulty(0, high + "lanes 2;", 3, high.length() + 6);
        taken(0, high + "lanes 3;", 4);
        taken(0, "lanes 4;lanes 1;" + CAR, 3);
    }

    /** A car's lane: 0 to LANES told by then, less 1. */
    private static void carsLane() {
        for (int lanes = 1; lanes <= 4; lanes++) {
            String text = "lanes " + lanes + ";car ";
            for (int lane = 0; lane <= 5; lane++) {
                if (lane < lanes) {
                    FootOut x = Check.with(text + lane + " at 1 pace 1 kind 0;", "");
                    due("its lane", x.car(0, 0), lane);
                } else {
                    faulty(0, text + lane + " at 1 pace 1 kind 0;", 3, text.length());
                }
            }
        }
        taken(0, CAR, 1);
        faulty(0, "car 1 at 1 pace 1 kind 0;", 3, 4);
        faulty(0, "car 1 at 1 pace 1 kind 0;lanes 2;", 3, 4);
        faulty(0, "lanes 4;lanes 2;car 2 at 1 pace 1 kind 0;", 3, 20);
    }

    /** DIST 1 to 200, PACE 1 to 9, KIND 0 to 3. */
    private static void carsNumbers() {
        for (int dist : new int[] {1, 2, 199, 200}) {
            due("DIST", Check.with("car 0 at " + dist + " pace 1 kind 0;", "").car(0, 1), dist);
        }
        for (int pace = 1; pace <= 9; pace++) {
            due("PACE", Check.with("car 0 at 1 pace " + pace + " kind 0;", "").car(0, 2), pace);
        }
        for (int kind = 0; kind <= 3; kind++) {
            due("KIND", Check.with("car 0 at 1 pace 1 kind " + kind + ";", "").car(0, 3), kind);
        }
        faulty(0, "car 0 at 0 pace 1 kind 0;", 3, 9);
        faulty(0, "car 0 at 201 pace 1 kind 0;", 3, 9);
        faulty(0, "car 0 at 1 pace 0 kind 0;", 3, 16);
        faulty(0, "car 0 at 1 pace 10 kind 0;", 3, 16);
        faulty(0, "car 0 at 1 pace 1 kind 4;", 3, 23);
    }

    /** CARS are numbered as they come, 8 at most. */
    private static void eightCars() {
        StringBuilder s = new StringBuilder();
        for (int c = 0; c < 8; c++) {
            s.append("car 0 at ").append(100 - c).append(" pace ").append(c + 1).append(" kind ").append(c % 4).append(";");
        }
        FootOut x = Check.with(s.toString(), "");
        due("eight", x.count(1), 8);
        for (int c = 0; c < 8; c++) {
            due("as they come", x.car(c, 1), 100 - c);
            due("with PACE", x.car(c, 2), c + 1);
            due("with KIND", x.car(c, 3), c % 4);
        }
        due("no ninth", x.car(8, 0), -2);
        faulty(0, s + "car 0 at 1 pace 1 kind 0;", 4, s.length());
        faulty(0, s + " \ncar", 4, s.length() + 2);
        taken(0, s + "old;", 9);
    }

    private static void traits() {
        for (int i = 0; i < 8; i++) {
            FootOut x = Check.with(TRAITS[i] + ";", "stop 7 if " + TRAITS[i] + ";");
            due(TRAITS[i] + " is a bit", x.count(2), 1 << i);
            due(TRAITS[i] + " told twice", Check.scene(x, TRAITS[i] + ";" + TRAITS[i] + ";"), 2);
            due(TRAITS[i] + " is still told", x.count(2), 1 << i);
            due("it was told", x.trait(i, true), 1);
            due("it stays", x.count(2), 1 << i);
            due("it was told still", x.trait(i, false), 1);
            due("no more", x.count(2), 0);
            due("it was not", x.trait(i, false), 0);
            due("it was not still", x.trait(i, true), 0);
            due("told again", x.count(2), 1 << i);
            Check.scene(x, TRAITS[i] + ";" + CAR);
            due("THE LAW asks for it", x.chance(0), 7);
            x.trait(i, false);
            due("THE LAW asks for it in vain", x.chance(0), 0);
        }
        FootOut x = new FootOut();
        due("trait(-1)", x.trait(-1, true), -2);
        due("trait(8)", x.trait(8, true), -2);
        due("none is told", x.count(2), 0);
        due("status(0)", x.status(0), 2);
    }

    private static void setting(String word, int what, int least, int most) {
        for (int v : new int[] {least, least + 1, most - 1, most}) {
            due(word + " " + v, Check.with(word + " " + v + ";", "").count(what), v);
        }
        faulty(0, word + " " + (most + 1) + ";", 3, word.length() + 1);
        faulty(0, "old;" + word + " 999;", 3, word.length() + 5);
        if (least > 0) {
            faulty(0, word + " " + (least - 1) + ";", 3, word.length() + 1);
        }
    }

    private static void settings() {
        setting("line", 3, 0, 30);
        setting("gap", 4, 0, 20);
        setting("waits", 5, 0, 60);
        setting("sight", 6, 1, 200);
    }

    private static void laterOnesCount() {
        FootOut x = Check.with("lanes 3;line 30;gap 20;waits 60;sight 200;lanes 2;line 1;gap 2;waits 3;sight 4;", "");
        int[] due = {2, 0, 0, 1, 2, 3, 4};
        for (int i = 0; i < due.length; i++) {
            due("later ones: count(" + i + ")", x.count(i), due[i]);
        }
        due("all are LINES", x.count(10), 10);
    }

    /** stop N: 0 to 100. */
    private static void percents() {
        for (int n : new int[] {0, 1, 99, 100}) {
            due("stop " + n, Check.with(CAR, "stop " + n + " if near 2;").chance(0), n);
        }
        faulty(1, "stop 101 if old;", 3, 5);
        faulty(1, "stop 999 if old;", 3, 5);
        faulty(1, "stop 1000 if old;", 1, 5);
    }

    /** N 0 to 999 of a FACT: four digits are no TOKEN. */
    private static void factNumbers() {
        for (String word : new String[] {"near", "fast", "lane", "kind"}) {
            taken(1, "stop 1 if " + word + " 0;", 1);
            taken(1, "stop 1 if " + word + " 999;", 1);
            faulty(1, "stop 1 if " + word + " 1000;", 1, 15);
            faulty(1, "stop 1 if " + word + ";", 2, 14);
        }
        FootOut x = Check.with("lanes 4;car 3 at 200 pace 9 kind 3;", "stop 1 if near 0 or fast 999 or lane 999 or kind 999;stop 2 if near 999 and fast 0;");
        due("0 and 999", x.chance(0), 2);
        for (String word : new String[] {"old", "ahead", "beside", "passed", "in"}) {
            faulty(1, "stop 1 if " + word + " 5;", 2, 11 + word.length());
        }
    }

    /** Of THE LAW 12 lines at most: the 13th's first TOKEN. */
    private static void twelveLines() {
        StringBuilder s = new StringBuilder();
        for (int k = 0; k < 12; k++) {
            s.append("stop ").append(k + 1).append(" if near ").append(10 * k).append(";");
        }
        for (int k = 1; k < 12; k++) {
            FootOut x = Check.with("car 0 at " + (10 * k - 1) + " pace 1 kind 0;", s.toString());
            due("the first line whose TEST is so", x.chance(0), k + 1);
        }
        FootOut x = new FootOut();
        due("twelve", Check.law(x, s.toString()), 12);
        due("repeals(11)", x.repeals(11), 0);
        due("repeals(12)", x.repeals(12), -2);
        faulty(1, s + "stop 1 if old;", 4, s.length());
        faulty(1, s + " \n stop", 4, s.length() + 3);
        faulty(1, s + ";", 2, s.length());
        taken(1, s + " \n ", 12);
    }

    /** Between TOKENS 10 and 32, as many as one likes; no other byte is a blank. */
    private static void blanks() {
        taken(0, "\n \n  lanes\n\n3 ; \n", 1);
        taken(0, "lanes 3;", 1);
        taken(1, " \nstop\n50\nif\n(\nold\n)\n;\n", 1);
        for (int b = 0; b < 256; b++) {
            boolean isToken = b >= 'a' && b <= 'z' || b >= '0' && b <= '9' || b == ';' || b == '(' || b == ')';
            if (b == 10 || b == 32) {
                taken(0, "gap" + (char) b + "5;", 1);
            } else if (!isToken) {
                faulty(0, "gap" + (char) b + "5;", 1, 3);
                faulty(1, "stop 5 if old" + (char) b + ";", 1, 13);
            }
        }
    }

    /** TOKENS go on as long as they do: words of small letters. */
    private static void words() {
        faulty(0, "ol d;", 2, 0);
        faulty(0, "oldold;", 2, 0);
        faulty(0, "a;", 2, 0);
        faulty(0, "z;", 2, 0);
        faulty(0, "ol;", 2, 0);
        faulty(0, "olds;", 2, 0);
        faulty(0, "OLD;", 1, 0);
        faulty(0, "olD;", 2, 0);
        faulty(0, "old" + "a".repeat(397), 2, 0);
        faulty(0, "lane 2;", 2, 0);
        faulty(0, "stop 5 if old;", 2, 0);
        faulty(1, "gap 5;", 2, 0);
        for (String word : new String[] {"at", "pace", "kind", "near", "fast", "ahead", "beside", "passed", "in", "not", "and", "or", "if"}) {
            faulty(0, word + ";", 2, 0);
            faulty(1, word + ";", 2, 0);
        }
        for (String word : new String[] {"a", "z", "road", "olds", "lanes", "car", "at", "pace", "line", "gap", "waits", "sight", "stop", "if", "and", "or"}) {
            faulty(1, "stop 5 if " + word + ";", 2, 10);
        }
    }

    /** N has 1 to 3 digits; 4 and more are no TOKEN, at their first. */
    private static void digits() {
        taken(0, "gap 5;", 1);
        taken(0, "gap 05;", 1);
        taken(0, "gap 005;", 1);
        faulty(0, "gap 0005;", 1, 4);
        faulty(0, "gap 00005;", 1, 4);
        faulty(0, "gap " + "0".repeat(396), 1, 4);
        due("it is 5", Check.with("gap 005;", "").count(4), 5);
        due("it is 10", Check.with("gap 10;", "").count(4), 10);
        due("it is 200", Check.with("sight 200;", "").count(6), 200);
        for (int n : new int[] {0, 1, 7, 8, 15, 16, 999}) {
            faulty(0, n + ";", 2, 0);
            faulty(0, "old;" + n + ";", 2, 4);
            faulty(1, n + ";", 2, 0);
            faulty(1, "stop 1 if " + n + ";", 2, 10);
            faulty(1, "stop 1 if not " + n + ";", 2, 14);
            faulty(1, "stop 1 if (" + n + ");", 2, 11);
            faulty(1, "stop 1 if old or " + n + ";", 2, 17);
        }
        faulty(0, "gap 1 0;", 2, 6);
        faulty(0, "gap -5;", 1, 4);
        faulty(0, "gap 5x;", 2, 5);
        faulty(0, "car 0 at 1000 pace 1 kind 0;", 1, 9);
    }

    private static void signs() {
        taken(1, "stop 5 if(old);", 1);
        faulty(0, "(", 2, 0);
        faulty(0, ")", 2, 0);
        faulty(0, ";", 2, 0);
        faulty(1, ";", 2, 0);
        faulty(1, "stop 5 if (old;", 2, 14);
        faulty(1, "stop 5 if old);", 2, 13);
        faulty(1, "stop 5 if ();", 2, 11);
        faulty(1, "stop 5 if [old];", 1, 10);
        faulty(1, "stop 5 if old,", 1, 13);
        faulty(1, "stop 5 if old:", 1, 13);
        faulty(1, "stop 5 if *", 1, 10);
    }

    /** Of several FAULTS the first along the text, of whatever kind. */
    private static void firstAlongTheText() {
        faulty(0, "gap 21;gap ?;", 3, 4);
        faulty(0, "gap ?;gap 21;", 1, 4);
        faulty(0, "old old;?", 2, 4);
        faulty(0, "sight 0;old", 3, 6);
        faulty(0, CAR.repeat(8) + "car ?", 4, 200);
        faulty(0, CAR.repeat(8) + "gap 21;car", 3, 204);
        faulty(0, "gap 21", 3, 4);
        faulty(1, "stop 101 of ?", 3, 5);
        faulty(1, "stop 1 if " + "(".repeat(9) + "?", 5, 18);
        faulty(1, "stop 1 if " + "(".repeat(8) + "?((", 1, 18);
    }

    /** Of one TOKEN the least kind. */
    private static void leastKind() {
        faulty(0, "1234;", 1, 0);
        faulty(0, "old 1234", 1, 4);
        faulty(0, "car 0 1234", 1, 6);
        faulty(0, "car 0 999", 2, 6);
        faulty(0, "old 999", 2, 4);
        faulty(0, CAR.repeat(8) + "Car", 1, 200);
        faulty(0, CAR.repeat(8) + "cars", 2, 200);
        faulty(1, "stop 1 if old;".repeat(12) + "1234", 1, 168);
        faulty(1, "stop 1 if old;".repeat(12) + "if", 2, 168);
        faulty(1, "stop 1 if " + "(".repeat(8) + "old(", 2, 21);
        faulty(1, "stop 1 if " + "(".repeat(8) + "old not", 2, 22);
        faulty(1, "stop 1 if " + "(".repeat(8) + "!", 1, 18);
    }

    /** Where the end can't stand: at the text's length, blanks and all. */
    private static void theEnd() {
        faulty(0, "old", 2, 3);
        faulty(0, "old \n ", 2, 6);
        faulty(0, "car", 2, 3);
        faulty(0, "car 0", 2, 5);
        faulty(0, "car 0 at", 2, 8);
        faulty(0, "car 0 at 1", 2, 10);
        faulty(0, "car 0 at 1 pace", 2, 15);
        faulty(0, "car 0 at 1 pace 1", 2, 17);
        faulty(0, "car 0 at 1 pace 1 kind", 2, 22);
        faulty(0, "car 0 at 1 pace 1 kind 0", 2, 24);
        faulty(0, "lanes", 2, 5);
        faulty(0, "lanes 2", 2, 7);
        faulty(1, "stop", 2, 4);
        faulty(1, "stop 5", 2, 6);
        faulty(1, "stop 5 if", 2, 9);
        faulty(1, "stop 5 if not", 2, 13);
        faulty(1, "stop 5 if near", 2, 14);
        faulty(1, "stop 5 if (", 2, 11);
        faulty(1, "stop 5 if (old", 2, 14);
        faulty(1, "stop 5 if old and", 2, 17);
        faulty(1, "stop 5 if old or ", 2, 17);
        FootOut x = new FootOut();
        x.feed(0x6f6c643b, 0x6f6c643b, 0x6f6c643b, 0x6f6c643b, 0x6f6c643b);
        due("THE TAPE goes on behind it", x.text(0, 7), -32);
        due("the text doesn't", x.fault(1), 7);
    }

    /** Eight not or ( may be open around one another, the 9th is the FAULT. */
    private static void openOnes() {
        for (int nots = 0; nots <= 9; nots++) {
            String ahead = "stop 1 if " + "not ".repeat(nots) + "(".repeat(8 - Math.min(8, nots));
            String behind = ")".repeat(8 - Math.min(8, nots)) + ";";
            if (nots <= 8) {
                taken(1, ahead + "old" + behind, 1);
                taken(1, ahead + "old" + behind + "stop 2 if not (" + "old);", 2);
                faulty(1, ahead + "(old)" + behind, 5, ahead.length());
                faulty(1, ahead + "not old" + behind, 5, ahead.length());
            } else {
                faulty(1, ahead + "old" + behind, 5, 42);
            }
        }
        String eight = "((((((((old))))))))";
        taken(1, "stop 1 if " + eight + " and " + eight + " or " + eight + ";", 1);
        taken(1, "stop 1 if (((((((old and not in) or not eye)))))) and not not not not not not not not two;", 1);
        FootOut x = Check.with(CAR, "stop 9 if not not not not not not not not near 2;stop 8 if not not not not not not not near 2;");
        due("eight times not", x.chance(0), 9);
        Check.law(x, "stop 9 if not not not not not not not near 2;stop 8 if not ((((((not near 2))))));");
        due("seven times not", x.chance(0), 8);
        due("no TEST is so", Check.law(x, "stop 9 if not near 2;"), 1);
        due("none: 0", x.chance(0), 0);
    }

    /** A text is in place of the one before it, however long that was. */
    private static void oneBehindTheOther() {
        FootOut x = Check.with(CAR, "");
        for (int i = 1; i <= 30; i++) {
            due("a long LAW", Check.law(x, "stop 9 if near 0" + " or near 1".repeat(38) + ";"), 1);
            due("is not so", x.chance(0), 0);
            Check.isTrue("a FAULT", Check.law(x, "stop 9 if near 2" + " or near 2".repeat(30) + ";?") < -30);
            due("is not so still", x.chance(0), 0);
            due("a short LAW", Check.law(x, "stop " + i + " if near 2;"), 1);
            due("is so", x.chance(0), i);
            due("another one", Check.law(x, "stop 1 if not near 2;stop " + i + " if kind 0 and not (near 1 or not near 2);"), 2);
            due("is so", x.chance(0), i);
            due("it has no third line", x.repeals(2), -2);
        }
        for (int i = 1; i <= 8; i++) {
            due("CARS", Check.scene(x, CAR.repeat(9 - i) + "old;"), 10 - i);
            due("so many", x.count(1), 9 - i);
            due("and no more", x.car(9 - i, 0), -2);
            due("none", Check.scene(x, "gap 1;"), 1);
            due("no TRAIT", x.count(2), 0);
            due("no car", x.car(0, 0), -2);
        }
    }

    /** With a FAULT THE SCENE and THE LAW stay, but THE TAPE is empty. */
    private static void whatThereWasStays() {
        FootOut x = Check.with("lanes 2;" + CAR + "old;line 1;gap 2;waits 3;sight 4;", "stop 5 if old;stop 6 if eye;");
        String[][] bad = {{"lanes 4;pram;line 9;gap 9;waits 9;sight 9;" + CAR + "?", "stop 9 if pram;?"}, {"old", "stop"},
            {"gap 21;", "stop 101"}, {CAR.repeat(9), "stop 9 if eye;".repeat(13)}, {"lanes 0;", "stop 1 if (((((((((old"}};
        int[] due = {2, 1, 1, 1, 2, 3, 4, 2, 0, 0, 7};
        int refused = 0;
        for (String[] texts : bad) {
            for (int what = 0; what < 2; what++) {
                Check.isTrue("a FAULT in '" + texts[what] + "'", Check.read(x, what, texts[what]) < -30);
                refused++;
                due("status(5)", x.status(5), refused);
                for (int i = 0; i < due.length; i++) {
                    due("count(" + i + ") stays", x.count(i), due[i]);
                }
                due("its car stays", x.car(0, 1), 1);
                due("its law stays", x.chance(0), 5);
                due("its odds stay", x.odds(5), 100);
            }
        }
    }

    /** Promise 4: of the latest text that was read: a refused one by -2 or -3 was not. */
    private static void latestText() {
        FootOut x = new FootOut();
        due("none yet", x.fault(0), 0);
        due("no place yet", x.fault(1), -1);
        Check.scene(x, "gap 21;");
        due("too long", x.text(0, 1), -3);
        due("too long", x.text(1, 1), -3);
        due("no such", x.text(2, 0), -2);
        due("no such", x.text(-1, 0), -2);
        due("fault(0) stays", x.fault(0), 3);
        due("fault(1) stays", x.fault(1), 4);
        Check.law(x, "stop 1 if old,");
        due("of a LAW", x.fault(0), 1);
        due("its place", x.fault(1), 13);
        Check.scene(x, "old;");
        due("of a sound one", x.fault(0), 0);
        due("it has no place", x.fault(1), -1);
        for (int what : new int[] {-1, 2, Integer.MIN_VALUE, Integer.MAX_VALUE}) {
            due("fault(" + what + ")", x.fault(what), -1);
        }
        due("NONE is no refusal", x.status(0), 2);
    }

    /** Promise 5: as told, whatever hump and the RUNS do. */
    private static void carAsTold() {
        FootOut x = Check.with("lanes 4;car 3 at 200 pace 9 kind 3;" + CAR + "hump;", "stop 50 if near 201;");
        x.run(1, 0);
        x.odds(0);
        x.absent(0);
        int[][] due = {{3, 200, 9, 3}, {0, 1, 1, 0}};
        for (int c = 0; c < 2; c++) {
            for (int what = 0; what < 4; what++) {
                due("car(" + c + ", " + what + ")", x.car(c, what), due[c][what]);
            }
            due("what 4", x.car(c, 4), -2);
            due("what -1", x.car(c, -1), -2);
        }
        due("car 2 of 2", x.car(2, 0), -2);
        due("car -1", x.car(-1, 3), -2);
    }

    /** Promise 7. */
    private static void setBounds() {
        int[] without = {0, 3, 20, 40};
        int[] least = {0, 0, 0, 1};
        int[] most = {30, 20, 60, 200};
        for (int what = 0; what < 4; what++) {
            FootOut x = new FootOut();
            due("what it was", x.set(what, least[what]), without[what]);
            due("the least", x.count(3 + what), least[what]);
            due("one below", x.set(what, least[what] - 1), -3);
            due("it stays the least", x.count(3 + what), least[what]);
            due("the greatest", x.set(what, most[what]), least[what]);
            due("one above", x.set(what, most[what] + 1), -3);
            due("least of all", x.set(what, Integer.MIN_VALUE), -3);
            due("greatest of all", x.set(what, Integer.MAX_VALUE), -3);
            due("it stays the greatest", x.set(what, most[what]), most[what]);
            due("status(1)", x.status(1), 4);
            due("no such what", x.set(4, least[what]), -2);
            due("none below", x.set(-1, least[what]), -2);
            for (int other = 0; other < 4; other++) {
                due("others stay", x.count(3 + other), other == what ? most[what] : without[other]);
            }
        }
    }

    /** Promise 8: in the first TICK all are undecided; beyond SIGHT, and if it can't. */
    private static void chanceInTheFirstTick() {
        String cars = "lanes 2;car 0 at 9 pace 1 kind 0;car 0 at 10 pace 9 kind 1;car 1 at 200 pace 3 kind 2;sight 9;line 30;";
        FootOut x = Check.with(cars, "stop 9 if ahead or beside or passed or in;stop 5 if near 10;stop 6 if near 11;stop 7 if kind 2;");
        due("near 10 of 9", x.chance(0), 5);
        due("near 10 of 10; it can't", x.chance(1), 6);
        due("it can't", x.can(1), 0);
        due("beyond SIGHT", x.chance(2), 7);
        due("a RUN ahead of it changes nothing", x.run(1, 0) > 0 ? x.chance(2) : 0, 7);
        Check.law(x, "stop 1 if fast 10;stop 2 if fast 9;stop 3 if fast 3;stop 4 if fast 0;");
        due("fast 9 of 9", x.chance(1), 2);
        due("fast 3 of 3", x.chance(2), 3);
        due("fast 0 of 1", x.chance(0), 4);
        x.trait(6, true);
        due("fast 3 of 9, with hump 4", x.chance(1), 3);
        Check.law(x, "stop 1 if fast 5;stop 2 if fast 4;");
        due("hump makes it 4", x.chance(1), 2);
        due("but not 3", x.chance(2), 0);
        Check.law(x, "stop 1 if lane 2;stop 2 if lane 1;stop 3 if kind 1;stop 4 if kind 0;");
        due("lane 1", x.chance(2), 2);
        due("kind 1", x.chance(1), 3);
        due("kind 0", x.chance(0), 4);
        due("chance(3) of three", x.chance(3), -2);
        due("chance(-1)", x.chance(-1), -2);
        due("can(3) of three", x.can(3), -2);
        due("can(-1)", x.can(-1), -2);
        due("of none", new FootOut().chance(0), -2);
        due("of none", new FootOut().can(0), -2);
    }

    /** Promise 9, CAN: PACE times (PACE less 1) by 2 is DIST less LINE at most. */
    private static void canBounds() {
        for (int pace = 1; pace <= 9; pace++) {
            int needs = pace * (pace - 1) / 2;
            for (int line : new int[] {0, 1, 30}) {
                for (int dist = Math.max(1, needs + line - 1); dist <= needs + line + 1; dist++) {
                    FootOut x = Check.with("car 0 at " + dist + " pace " + pace + " kind 0;line " + line + ";", "stop 100 if near 999;");
                    x.set(3, 200);
                    int can = dist >= needs + line ? 1 : 0;
                    due("can at " + dist + " with " + pace + " and LINE " + line, x.can(0), can);
                    due("so it stops or goes on", x.watch(1, 1, 0, 2), 1 + can);
                }
            }
        }
    }
}
