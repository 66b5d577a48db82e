import java.util.ArrayList;
import java.util.List;

/** All that can be seen of an object, in parts, each of which spoils the object and stays within its 512 calls. */
final class Probes {
    /** Prices of 1: what a GUEST pays tells how many HOURS it was there, so ITEMS from 0 to 6 can be read. */
    private static final String READER = "law 0 0;sun 1 1 1 1 1 1;guest lone 1 1 1;";

    /** One part. */
    interface Probe {
        void look(LastSun x, List<String> seen);
    }

    static final List<Probe> ALL = List.of(Probes::now, Probes::rows, Probes::tape, Probes::foretold,
        Probes::pastMoney, Probes::pastPlaces, Probes::images);

    private Probes() {
    }

    static List<String> seenBy(Probe probe, LastSun x) {
        List<String> seen = new ArrayList<>();
        probe.look(x, seen);
        return seen;
    }

    private static void see(List<String> seen, String call, int answer) {
        seen.add(call + " = " + answer);
    }

    static void now(LastSun x, List<String> seen) {
        for (int what = 0; what <= 7; what++) {
            see(seen, "count(" + what + ")", x.count(what));
        }
        guests(x, seen, 0, 6);
        prices(x, seen);
        for (int g = 0; g < 4; g++) {
            see(seen, "kind(" + g + ")", x.kind(g));
        }
        for (int i = 0; i <= 16; i++) {
            see(seen, "trace(" + i + ")", x.trace(i));
        }
        see(seen, "fault()", x.fault());
        see(seen, "status()", x.status());
    }

    private static void guests(LastSun x, List<String> seen, int from, int to) {
        for (int g = 0; g < 4; g++) {
            for (int what = from; what <= to; what++) {
                see(seen, "guest(" + g + ", " + what + ")", x.guest(g, what));
            }
        }
    }

    private static void prices(LastSun x, List<String> seen) {
        for (int h = 0; h < 6; h++) {
            see(seen, "price(" + h + ")", x.price(h));
        }
    }

    /** LANES by what 70000 becomes, or, of no ITEMS, by which ROWS none can be copied from. */
    static void rows(LastSun x, List<String> seen) {
        openReader(x);
        for (int r = 0; r < 8; r++) {
            int size = sizeOf(x, r);
            see(seen, "size of row " + r, size);
            for (int item : items(x, r, Math.min(size, 8))) {
                see(seen, "item of row " + r, item);
            }
            see(seen, "set(" + r + ", 0, 70000)", x.set(r, 0, 70000));
        }
        for (int r = 6; r >= 0; r--) {
            x.row(7, 0, 0);
            see(seen, "none to bytes from " + r, x.copy(r, 0, 7, 0, 0));
        }
    }

    /** How many ITEMS a ROW has; -1: it is missing. */
    private static int sizeOf(LastSun x, int row) {
        if (x.copy(row, 0, row, 0, 0) == Sun.NULL) {
            return -1;
        }
        int size = 40;
        while (size > 0 && x.copy(row, 0, row, 0, size) != size) {
            size--;
        }
        return size;
    }

    static void openReader(LastSun x) {
        x.beach();
        Sun.feed(x, READER);
        x.beach();
    }

    /** The first ITEMS of a ROW (0 to 6 as they are), which are shifted out of it; the reader's BEACH is open. */
    static int[] items(LastSun x, int row, int many) {
        int[] items = new int[Math.max(0, many)];
        for (int i = 0; i < items.length; i++) {
            items[i] = x.explained(row, 0);
            x.copy(row, 1, row, 0, many - 1);
        }
        return items;
    }

    static void tape(LastSun x, List<String> seen) {
        see(seen, "count(7)", x.count(7));
        see(seen, "beach()", x.beach());
        now(x, seen);
    }

    static void foretold(LastSun x, List<String> seen) {
        Sun.row(x, 7, 6, 5, 3, 6);
        for (int g = 0; g < 4; g++) {
            for (int what = 0; what <= 2; what++) {
                see(seen, "worth(7, " + g + ", " + what + ")", x.worth(7, g, what));
            }
            see(seen, "alone(" + g + ", 3, 0)", x.alone(g, 3, 0));
        }
        see(seen, "laws(7, 1)", x.laws(7, 1));
        see(seen, "owner(7, 1)", x.owner(7, 1));
    }

    static void pastMoney(LastSun x, List<String> seen) {
        for (int left = 1, i = 0; left > 0 && i < 25; i++) {
            left = x.undo();
            see(seen, "undo()", left);
            guests(x, seen, 1, 1);
            guests(x, seen, 6, 6);
            see(seen, "count(2)", x.count(2));
            see(seen, "count(3)", x.count(3));
        }
    }

    static void pastPlaces(LastSun x, List<String> seen) {
        for (int left = 1, i = 0; left > 0 && i < 25; i++) {
            left = x.undo();
            see(seen, "undo()", left);
            guests(x, seen, 3, 5);
            prices(x, seen);
        }
    }

    static void images(LastSun x, List<String> seen) {
        for (int k = 0; k < 2; k++) {
            see(seen, "restore(" + k + ")", x.restore(k));
            now(x, seen);
            foretold(x, seen);
        }
    }
}
