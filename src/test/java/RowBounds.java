/** Promises 1 to 5, and what the Terms say of refusals, findings and ROWS: each sentence, at its bounds. */
final class RowBounds extends Bounds {
    private static final Scenes.Scene NEW = x -> { };
    private static final Scenes.Scene RICH = Scenes.RICH;

    private RowBounds() {
    }

    static void run() {
        newObject();
        refusalsInOrder();
        refusalsChangeNothing();
        findings();
        rowsAtFirst();
        row();
        rowInPlace();
        set();
        setWhatIsKept();
        setRefused();
        copy();
        copyAsAhead();
        copyRefused();
        drop();
    }

    private static void newObject() {
        says(1, "No BEACH.");
        refused(NEW, STATE, "hour");
        refused(NEW, STATE, "price", 0);
        refused(NEW, STATE, "image", 0);
        refused(NEW, STATE, "rests", -1);
        refused(NEW, BAD, "guest", 0, 0);
        refused(NEW, BAD, "kind", 0);
        for (int what = 0; what <= 7; what++) {
            answers(NEW, 0, "count", what);
        }
        Scenes.Scene empty = Scenes.read("law 0 0;sun 7 1 1 1 1 1;");
        answers(empty, 0, "hour");
        answers(empty, 7, "price", 0);
        answers(empty, 1, "image", 0);
        answers(empty, 1, "rests", -1);
        refused(empty, BAD, "guest", 0, 0);
    }

    private static void refusalsInOrder() {
        says(0, "Refusals are answers, the first of these that fits, but as told: BAD (a number is not as told; "
            + "there is no such thing), STATE (as told), FULL (as told), then FINDINGS, of several the first in time:");
        refused(NEW, BAD, "image", 2);
        refused(NEW, STATE, "image", 1);
        refused(NEW, BAD, "restore", 2);
        refused(NEW, STATE, "restore", 1);
        refused(NEW, BAD, "leave", 0);
        refused(NEW, STATE, "sunset");
        refused(Scenes.TAPE_OF_393, BAD, "feed", 0, 9);
        refused(Scenes.TAPE_OF_393, FULL, "feed", 0, 8);
        refused(RICH, BAD, "row", 8, 0, -1);
        refused(RICH, BAD, "as", 4, 5);
        refused(RICH, NULL, "copy", 5, -1, 0, 0, 1);
        refused(RICH, STORE, "copy", 0, -1, 1, 0, 1);
        refused(RICH, NULL, "set", 5, -1, 0);
    }

    private static void refusalsChangeNothing() {
        says(0, "What is refused, or found, changes nothing but status().");
        refused(Scenes.NO_BEACH, BAD, "drop", 8);
        refused(Scenes.NO_BEACH, STATE, "hour");
        refused(Scenes.NO_BEACH, NULL, "drop", 5);
        refused(RICH, BAD, "ask", 4, 0);
        refused(RICH, STATE, "sunset");
        refused(Scenes.EVENING, FULL, "hour");
        refused(RICH, NULL, "worth", 5, 0, 0);
        refused(RICH, PLACE, "worth", 2, 0, 0);
        refused(RICH, KIND, "as", 0, 2);
        refused(RICH, SIZE, "row", 0, 0, -1);
        refused(RICH, STORE, "copy", 0, 0, 1, 0, 4);
    }

    private static void findings() {
        says(0, "-1000010 less 1 NULL (a ROW that is missing), 2 PLACE (no such place of a ROW), "
            + "3 KIND (a GUEST that is not that), 4 SIZE (fewer than none), 5 STORE (ROWS of two LANES).");
        refused(RICH, -1000011, "drop", 5);
        refused(RICH, -1000012, "set", 0, 4, 0);
        refused(RICH, -1000013, "as", 3, 1);
        refused(RICH, -1000014, "row", 5, 0, -1);
        refused(RICH, -1000015, "copy", 0, 0, 1, 0, 1);
        answers(RICH, 4, "drop", 0);
        answers(RICH, 0, "set", 0, 3, 0);
        answers(RICH, 3, "as", 3, 4);
        answers(RICH, 0, "row", 5, 0, 0);
        answers(RICH, 1, "copy", 0, 0, 0, 0, 1);
    }

    private static void rowsAtFirst() {
        says(0, "Ahead of the calls `row`, `set`, `copy`, `drop` the interface says: ---- rows.");
        says(0, "ROWS 0 .. 7 are missing (at first), or have a LANE (0 bytes, 1 shorts, 2 ints) and 0 to 40 ITEMS, "
            + "0 at first.");
        for (int r = 0; r < 8; r++) {
            refused(NEW, NULL, "drop", r);
            for (int lane = 0; lane < 3; lane++) {
                LastSun x = answers(NEW, 1, "row", r, lane, 1);
                int[] as = {112, 4464, 70000};
                due(x, as[lane], "set", r, 0, 70000);
            }
        }
        refused(NEW, BAD, "drop", -1);
        refused(NEW, BAD, "drop", 8);
        refused(NEW, BAD, "row", 0, -1, 0);
        refused(NEW, BAD, "row", 0, 3, 0);
        refused(NEW, SIZE, "row", 0, 0, -1);
        refused(NEW, BAD, "row", 0, 0, 41);
        dueNoughts(true);
        dueNoughts(false);
    }

    /** A ROW of 40 ITEMS of 5 is made anew, behind a drop, or in its place. */
    private static void dueNoughts(boolean isDropped) {
        LastSun x = new LastSun();
        x.row(6, 1, 40);
        for (int i = 0; i < 40; i++) {
            x.set(6, i, 5);
        }
        if (isDropped) {
            due(x, 40, "drop", 6);
        }
        due(x, 40, "row", 6, 1, 40);
        dueItems(x, 6, new int[40]);
    }

    private static void dueItems(LastSun x, int row, int... items) {
        Probes.openReader(x);
        int[] got = Probes.items(x, row, items.length);
        for (int i = 0; i < items.length; i++) {
            Sun.due("item " + i + " of row " + row, got[i], items[i]);
        }
    }

    private static void row() {
        says(2, "BAD: ROW, LANE, n above 40; SIZE.");
        for (int row : new int[] {MIN, -1, 8, MAX}) {
            refused(RICH, BAD, "row", row, 0, 1);
            refused(RICH, BAD, "row", row, 0, -1);
        }
        for (int lane : new int[] {MIN, -1, 3, MAX}) {
            refused(RICH, BAD, "row", 0, lane, 1);
            refused(RICH, BAD, "row", 0, lane, -1);
        }
        for (int n : new int[] {41, MAX}) {
            refused(RICH, BAD, "row", 0, 0, n);
        }
        for (int n : new int[] {-1, MIN}) {
            refused(RICH, SIZE, "row", 0, 0, n);
            refused(RICH, SIZE, "row", 7, 2, n);
        }
        answers(RICH, 1, "row", 0, 0, 1);
        answers(RICH, 1, "row", 7, 2, 1);
        answers(RICH, 0, "row", 0, 0, 0);
        answers(RICH, 40, "row", 0, 0, 40);
    }

    private static void rowInPlace() {
        says(2, "A ROW of a LANE with n ITEMS, in place of what is there: n.");
        LastSun x = answers(RICH, 5, "row", 0, 2, 5);
        due(x, 5, "count", 0);
        due(x, 70000, "set", 0, 4, 70000);
        due(x, PLACE, "set", 0, 5, 0);
        dueItems(x, 0, 0, 0, 0, 0);
        LastSun y = answers(RICH, 2, "row", 4, 0, 2);
        due(y, PLACE, "set", 4, 2, 0);
        due(y, 5, "count", 0);
        LastSun z = answers(RICH, 3, "row", 7, 1, 3);
        due(z, 6, "count", 0);
        due(z, 0, "status");
    }

    private static void set() {
        says(3, "ITEM i becomes v, its lowest bits, as many as the LANE has: what it is then.");
        int[] bytes = {127, 127, 128, -128, 255, -1, 256, 0, -128, -128, -129, 127, MIN, 0, MAX, -1};
        int[] shorts = {32767, 32767, 32768, -32768, 65535, -1, 65536, 0, -32768, -32768, -32769, 32767, MIN, 0, MAX, -1};
        int[] ints = {32768, 32768, 65536, 65536, MIN, MIN, MAX, MAX, -1, -1};
        dueSets(0, bytes);
        dueSets(1, shorts);
        dueSets(2, ints);
    }

    /** Pairs: v, and what the ITEM is then. */
    private static void dueSets(int row, int... pairs) {
        for (int k = 0; k < pairs.length; k += 2) {
            LastSun x = answers(RICH, pairs[k + 1], "set", row, 2, pairs[k]);
            due(x, 0, "status");
        }
    }

    private static void setWhatIsKept() {
        dueKept(0, 256 + 5, 3, 6, 5, 6);
        dueKept(1, 65536 - 65536 * 9 + 5, 1, 0, 5, 5);
        dueKept(2, 5, 1, 2, 5);
        LastSun x = answers(RICH, 4, "set", 4, 39, 4);
        x.copy(4, 39, 4, 0, 1);
        dueItems(x, 4, 4, 5, 4, 6);
    }

    private static void dueKept(int row, int v, int... items) {
        LastSun x = answers(RICH, 5, "set", row, 2, v);
        dueItems(x, row, items);
    }

    private static void setRefused() {
        says(3, "BAD: ROW; NULL; PLACE.");
        for (int row : new int[] {MIN, -1, 8, MAX}) {
            refused(RICH, BAD, "set", row, 0, 0);
            refused(RICH, BAD, "set", row, -1, 0);
        }
        for (int row = 5; row <= 7; row++) {
            refused(RICH, NULL, "set", row, 0, 0);
            refused(RICH, NULL, "set", row, 40, 0);
        }
        for (int i : new int[] {MIN, -1, 4, 40, MAX}) {
            refused(RICH, PLACE, "set", 0, i, 1);
        }
        refused(RICH, PLACE, "set", 3, 0, 1);
        refused(RICH, PLACE, "set", 4, 40, 1);
        answers(RICH, 1, "set", 0, 0, 1);
        answers(RICH, 1, "set", 0, 3, 1);
        answers(RICH, 1, "set", 4, 39, 1);
    }

    private static void copy() {
        says(4, "n ITEMS of a from i on come to b from j on, as they were ahead: n.");
        LastSun x = Scenes.after(RICH);
        x.row(5, 0, 6);
        due(x, 4, "copy", 0, 0, 5, 1, 4);
        due(x, 0, "status");
        dueItems(x, 5, 0, 3, 6, 2, 6, 0);
        LastSun y = Scenes.after(RICH);
        due(y, 2, "copy", 4, 2, 2, 1, 2);
        dueItems(y, 2, 1, 4, 6);
        LastSun z = Scenes.after(RICH);
        due(z, 0, "copy", 4, 2, 2, 1, 0);
        dueItems(z, 2, 1, 2, 3);
        LastSun w = Scenes.after(RICH);
        w.row(5, 2, 40);
        due(w, 40, "copy", 4, 0, 5, 0, 40);
        dueItems(w, 5, 5, 5, 4, 6);
    }

    /** A ROW is copied onto itself, forward, backward, and onto the very place. */
    private static void copyAsAhead() {
        LastSun x = answers(RICH, 3, "copy", 0, 0, 0, 1, 3);
        dueItems(x, 0, 3, 3, 6, 2);
        LastSun y = answers(RICH, 3, "copy", 0, 1, 0, 0, 3);
        dueItems(y, 0, 6, 2, 6, 6);
        LastSun z = answers(RICH, 4, "copy", 0, 0, 0, 0, 4);
        dueItems(z, 0, 3, 6, 2, 6);
    }

    private static void copyRefused() {
        says(4, "BAD: ROWS; NULL; STORE; PLACE (i, j, n below 0, or beyond an end).");
        for (int row : new int[] {MIN, -1, 8, MAX}) {
            refused(RICH, BAD, "copy", row, 0, 0, 0, 1);
            refused(RICH, BAD, "copy", 0, 0, row, 0, 1);
            refused(RICH, BAD, "copy", row, 0, 5, 0, 1);
            refused(RICH, BAD, "copy", 5, -1, row, 0, 1);
        }
        refused(RICH, NULL, "copy", 5, 0, 0, 0, 1);
        refused(RICH, NULL, "copy", 0, 0, 7, 0, 1);
        refused(RICH, NULL, "copy", 5, 0, 5, 0, 0);
        refused(RICH, NULL, "copy", 0, 0, 5, 0, -1);
        refused(RICH, STORE, "copy", 0, 0, 1, 0, 1);
        refused(RICH, STORE, "copy", 1, 0, 2, 0, 0);
        refused(RICH, STORE, "copy", 2, 0, 0, 0, 1);
        refused(RICH, STORE, "copy", 0, -1, 2, 99, -1);
        for (int n : new int[] {MIN, -1}) {
            refused(RICH, PLACE, "copy", 0, n, 0, 0, 1);
            refused(RICH, PLACE, "copy", 0, 0, 0, n, 1);
            refused(RICH, PLACE, "copy", 0, 0, 0, 0, n);
            refused(RICH, PLACE, "copy", 0, 1, 0, 1, n);
        }
        copyBeyondAnEnd();
    }

    private static void copyBeyondAnEnd() {
        refused(RICH, PLACE, "copy", 0, 0, 0, 0, 5);
        refused(RICH, PLACE, "copy", 2, 0, 4, 0, 4);
        refused(RICH, PLACE, "copy", 4, 0, 2, 0, 4);
        refused(RICH, PLACE, "copy", 4, 38, 2, 0, 3);
        refused(RICH, PLACE, "copy", 2, 0, 4, 38, 3);
        refused(RICH, PLACE, "copy", 0, 5, 0, 0, 0);
        refused(RICH, PLACE, "copy", 0, 0, 0, 5, 0);
        refused(RICH, PLACE, "copy", 0, 4, 0, 0, 1);
        refused(RICH, PLACE, "copy", 0, 0, 0, 4, 1);
        refused(RICH, PLACE, "copy", 0, MAX, 0, 0, 1);
        refused(RICH, PLACE, "copy", 0, 1, 0, MAX, MAX);
        refused(RICH, PLACE, "copy", 0, MAX, 0, 0, MAX);
        refused(RICH, PLACE, "copy", 0, 1, 0, 1, MAX);
        refused(RICH, PLACE, "copy", 3, 0, 0, 0, 1);
        answers(RICH, 4, "copy", 0, 0, 0, 0, 4);
        answers(RICH, 3, "copy", 4, 37, 2, 0, 3);
        answers(RICH, 3, "copy", 2, 0, 4, 37, 3);
        answers(RICH, 0, "copy", 0, 4, 0, 4, 0);
        answers(RICH, 0, "copy", 3, 0, 0, 4, 0);
        answers(RICH, 1, "copy", 0, 3, 0, 3, 1);
    }

    private static void drop() {
        says(5, "A ROW is missing from now on: how many ITEMS it had.");
        LastSun x = answers(RICH, 40, "drop", 4);
        due(x, 4, "count", 0);
        due(x, NULL, "set", 4, 0, 0);
        due(x, NULL, "drop", 4);
        due(x, 3, "row", 4, 0, 3);
        LastSun y = answers(RICH, 0, "drop", 3);
        due(y, NULL, "copy", 3, 0, 0, 0, 0);
        due(y, 4, "drop", 0);
        due(y, 3, "count", 0);
        says(5, "BAD; NULL.");
        for (int row : new int[] {MIN, -1, 8, MAX}) {
            refused(RICH, BAD, "drop", row);
        }
        for (int row = 5; row <= 7; row++) {
            refused(RICH, NULL, "drop", row);
        }
        answers(RICH, 4, "drop", 0);
        LastSun z = Scenes.after(RICH);
        z.row(7, 0, 1);
        due(z, 1, "drop", 7);
    }
}
