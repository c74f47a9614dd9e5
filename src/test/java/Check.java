import java.nio.charset.StandardCharsets;

/** What the tests share: calls with the answers that are due, and texts as the calls of feed() that bring them. */
final class Check {
    private static int wrong = 0;
    private static int asked = 0;

    private Check() {
    }

    static void due(String call, long got, long want) {
        asked++;
        if (got != want) {
            wrong++;
            if (wrong <= 40) {
                System.out.println(call + " answered " + got + ", due is " + want);
            }
        }
    }

    static void isTrue(String what, boolean so) {
        due(what, so ? 1 : 0, 1);
    }

    static int feedBytes(FootOut x, byte[] bytes) {
        int has = x.count(9);
        for (int i = 0; i < bytes.length; i += 20) {
            int[] five = new int[5];
            for (int j = 0; j < 20; j++) {
                int b = i + j < bytes.length ? bytes[i + j] & 255 : 32;
                five[j / 4] = five[j / 4] << 8 | b;
            }
            has = x.feed(five[0], five[1], five[2], five[3], five[4]);
        }
        return has;
    }

    static int read(FootOut x, int what, String text) {
        byte[] bytes = text.getBytes(StandardCharsets.ISO_8859_1);
        feedBytes(x, bytes);
        return x.text(what, bytes.length);
    }

    static int scene(FootOut x, String text) {
        return read(x, 0, text);
    }

    static int law(FootOut x, String text) {
        return read(x, 1, text);
    }

    static FootOut with(String scene, String law) {
        FootOut x = new FootOut();
        isTrue("scene " + scene, scene(x, scene) >= 0);
        isTrue("law " + law, law(x, law) >= 0);
        return x;
    }

    /** A ROW OF NUMBERS of a sort with these. */
    static void fill(FootOut x, int row, int sort, long... values) {
        due("numbers(" + row + ", " + sort + ", " + values.length + ")", x.numbers(row, sort, values.length), 0);
        for (int i = 0; i < values.length; i++) {
            x.write(row, i, values[i]);
        }
    }

    static void end() {
        System.out.println(wrong == 0 ? asked + " answers are as due" : wrong + " of " + asked + " answers are not as due");
        if (wrong != 0) {
            System.exit(1);
        }
    }
}
