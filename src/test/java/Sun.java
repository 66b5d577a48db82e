import java.nio.charset.StandardCharsets;

/** What the tests share: a LastSun whose answers are compared with those that are due. */
final class Sun {
    static final int NONE = LastSun.NONE, BAD = LastSun.BAD, STATE = LastSun.STATE, FULL = LastSun.FULL;
    static final int NULL = -1000011, PLACE = -1000012, KIND = -1000013, SIZE = -1000014, STORE = -1000015;

    private static final int MOST_TOLD = 50;
    private static int wrong = 0;
    private static int asked = 0;
    private static String about = "";

    private Sun() {
    }

    /** The sentence that the next answers are about; it is told with those that are wrong. */
    static void about(String sentence) {
        about = sentence;
    }

    static void due(String call, long got, long want) {
        asked++;
        if (got != want) {
            wrong++;
            tell(about + call + " answered " + got + ", due is " + want);
        }
    }

    private static void tell(String line) {
        if (wrong <= MOST_TOLD) {
            System.out.println(line);
        }
    }

    /** Ends the test with exit code 1 if an answer was wrong. */
    static void end(String test) {
        System.out.println(test + ": " + asked + " answers, " + wrong + " wrong");
        if (wrong != 0) {
            System.exit(1);
        }
    }

    static void feed(LastSun x, String text) {
        byte[] bytes = text.getBytes(StandardCharsets.ISO_8859_1);
        for (int at = 0; at < bytes.length; at += 8) {
            int n = Math.min(8, bytes.length - at);
            long w = 0;
            for (int i = 0; i < n; i++) {
                w = w << 8 | bytes[at + i] & 255;
            }
            x.feed(w, n);
        }
    }

    /** A new object with a BEACH by a text; how many GUESTS it has is checked. */
    static LastSun on(String text, int guests) {
        LastSun x = new LastSun();
        feed(x, text);
        due("beach() of '" + text + "'", x.beach(), guests);
        return x;
    }

    /** A ROW of ints with these ITEMS. */
    static void row(LastSun x, int row, int... items) {
        x.row(row, 2, items.length);
        for (int i = 0; i < items.length; i++) {
            x.set(row, i, items[i]);
        }
    }

    static void hours(LastSun x, int n) {
        for (int i = 0; i < n; i++) {
            x.hour();
        }
    }
}
