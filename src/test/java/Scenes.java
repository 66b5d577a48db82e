/** Where calls of the bounds tests begin: objects with as much in them as can change. */
final class Scenes {
    /** What a scene does with a new object. */
    interface Scene {
        void play(LastSun x);
    }

    static final String GUESTS = "guest lone 6 40 4;guest aunt 3 9 6;guest child 4 0 2;guest clan 8 90 5;";
    static final String TEXT = "law 1 2;sun 3 5 9 6 4 2;" + GUESTS;
    static final String UNREAD = "law 2 9;sun 9 8 7 6 5 4;guest band 1 2 3;";

    /** ROWS 0 bytes, 1 shorts, 2 ints (3 ITEMS: too few for 4 GUESTS), 3 none, 4 forty; 5, 6, 7 are missing. */
    static final Scene ROWS = Scenes::rows;
    /** No BEACH, but ROWS, a FAULT, an unread tape, a FINDING. */
    static final Scene NO_BEACH = Scenes::withoutBeach;
    /** The BEACH of TEXT on DAY 1, HOUR 2 to come, GUEST 0 has left, others owe; ACTS, IMAGES, a TRACE. */
    static final Scene RICH = Scenes::rich;
    /** The same, HOUR 5 is gone. */
    static final Scene EVENING = Scenes::evening;
    /** As RICH, with 393 bytes on the tape. */
    static final Scene TAPE_OF_393 = Scenes::tapeOf393;
    /** The BEACH of TEXT as it was read, and ROWS. */
    static final Scene MORNING = Scenes::morning;

    private Scenes() {
    }

    static LastSun after(Scene scene) {
        LastSun x = new LastSun();
        scene.play(x);
        return x;
    }

    /** A BEACH by a text, and nothing else. */
    static Scene read(String text) {
        return x -> {
            Sun.feed(x, text);
            x.beach();
        };
    }

    private static void rows(LastSun x) {
        fill(x, 0, 0, 3, 6, 2, 6);
        fill(x, 1, 1, 1, 0, 4, 5);
        fill(x, 2, 2, 1, 2, 3);
        x.row(3, 0, 0);
        fill(x, 4, 2, 5, 5, 4, 6, 99, -1);
    }

    private static void fill(LastSun x, int row, int lane, int... items) {
        x.row(row, lane, row == 4 ? 40 : items.length);
        for (int i = 0; i < items.length; i++) {
            x.set(row, i, items[i]);
        }
    }

    private static void withoutBeach(LastSun x) {
        rows(x);
        Sun.feed(x, "law 0 10;");
        x.beach();
        Sun.feed(x, UNREAD);
        x.set(0, 4, 0);
    }

    private static void morning(LastSun x) {
        rows(x);
        Sun.feed(x, TEXT);
        x.beach();
    }

    private static void rich(LastSun x) {
        rows(x);
        Sun.feed(x, "law 0 10;");
        x.beach();
        Sun.feed(x, TEXT);
        x.beach();
        x.shade(1, 1);
        x.cloud(2);
        Sun.hours(x, 3);
        x.leave(2);
        Sun.hours(x, 3);
        x.sunset();
        x.image(0);
        x.hour();
        x.leave(0);
        x.cloud(4);
        x.gift(3, 7);
        x.shade(2, 1);
        x.image(1);
        x.hour();
        x.ask(1, 0);
        Sun.feed(x, UNREAD);
        x.as(0, 5);
    }

    private static void tapeOf393(LastSun x) {
        rich(x);
        for (int at = UNREAD.length(); at < 393; at += 8) {
            x.feed(0x2020202020202020L, 8);
        }
    }

    private static void evening(LastSun x) {
        rich(x);
        Sun.hours(x, 4);
    }
}
