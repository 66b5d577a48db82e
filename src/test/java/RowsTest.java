/** Promises 1 to 5: a new object, row, set, copy, drop; and what status() says of them. */
public final class RowsTest {
    public static void main(String[] args) {
        newObject();
        row();
        set();
        copy();
        overlap();
        drop();
        status();
        Sun.end("RowsTest");
    }

    private static void newObject() {
        LastSun x = new LastSun();
        for (int what = 0; what <= 7; what++) {
            Sun.due("new count(" + what + ")", x.count(what), 0);
        }
        Sun.due("new price(0)", x.price(0), Sun.STATE);
        Sun.due("new hour()", x.hour(), Sun.STATE);
        Sun.due("new fault()", x.fault(), 0);
        Sun.due("new status()", x.status(), 0);
        Sun.due("new trace(0)", x.trace(0), Sun.NONE);
        for (int r = 0; r < 8; r++) {
            Sun.due("new drop(" + r + ")", x.drop(r), Sun.NULL);
        }
    }

    private static void row() {
        LastSun x = new LastSun();
        Sun.due("row(-1, 0, 1)", x.row(-1, 0, 1), Sun.BAD);
        Sun.due("row(8, 0, 1)", x.row(8, 0, 1), Sun.BAD);
        Sun.due("row(0, -1, 1)", x.row(0, -1, 1), Sun.BAD);
        Sun.due("row(0, 3, 1)", x.row(0, 3, 1), Sun.BAD);
        Sun.due("row(0, 0, 41)", x.row(0, 0, 41), Sun.BAD);
        Sun.due("BAD ahead of SIZE, by ROW", x.row(8, 0, -1), Sun.BAD);
        Sun.due("BAD ahead of SIZE, by LANE", x.row(0, 3, -1), Sun.BAD);
        Sun.due("row(0, 0, -1)", x.row(0, 0, -1), Sun.SIZE);
        Sun.due("count(0) after refusals", x.count(0), 0);
        Sun.due("row(0, 0, 0)", x.row(0, 0, 0), 0);
        Sun.due("row(7, 2, 40)", x.row(7, 2, 40), 40);
        Sun.due("count(0)", x.count(0), 2);
        Sun.due("set(7, 39, 5)", x.set(7, 39, 5), 5);
        Sun.due("row(7, 0, -2) changes nothing", x.row(7, 0, -2), Sun.SIZE);
        Sun.due("set(7, 38, 1000) still of ints", x.set(7, 38, 1000), 1000);
        Sun.due("row(7, 1, 40) in place of it", x.row(7, 1, 40), 40);
        Sun.due("set(7, 0, 65535) of shorts", x.set(7, 0, 65535), -1);
        Sun.due("count(0)", x.count(0), 2);
        itemsAreNoughtAtFirst();
    }

    /** ITEMS are looked at through explained(): what a GUEST pays must be told as 0. */
    private static void itemsAreNoughtAtFirst() {
        LastSun x = Sun.on("law 0 0;sun 1 1 1 1 1 1;guest lone 1 1 1;", 1);
        Sun.row(x, 0, 3, 9);
        Sun.due("explained by 3", x.explained(0, 0), 3);
        x.row(0, 2, 2);
        Sun.due("explained by a new row's 0", x.explained(0, 0), 0);
        x.set(0, 0, 5);
        x.drop(0);
        x.row(0, 2, 1);
        Sun.due("explained by 0 of a row after a drop", x.explained(0, 0), 0);
    }

    private static void set() {
        LastSun x = new LastSun();
        Sun.due("set(-1, 0, 0)", x.set(-1, 0, 0), Sun.BAD);
        Sun.due("set(8, 0, 0)", x.set(8, 0, 0), Sun.BAD);
        Sun.due("NULL ahead of PLACE", x.set(0, -1, 0), Sun.NULL);
        x.row(0, 0, 3);
        x.row(1, 1, 3);
        x.row(2, 2, 3);
        Sun.due("set(0, -1, 0)", x.set(0, -1, 0), Sun.PLACE);
        Sun.due("set(0, 3, 0)", x.set(0, 3, 0), Sun.PLACE);
        Sun.due("set(0, MIN, 0)", x.set(0, Integer.MIN_VALUE, 0), Sun.PLACE);
        Sun.due("set(0, MAX, 0)", x.set(0, Integer.MAX_VALUE, 0), Sun.PLACE);
        Sun.due("set(0, 2, 127)", x.set(0, 2, 127), 127);
        Sun.due("set(0, 2, 128)", x.set(0, 2, 128), -128);
        Sun.due("set(0, 2, 256)", x.set(0, 2, 256), 0);
        Sun.due("set(0, 2, -129)", x.set(0, 2, -129), 127);
        Sun.due("set(1, 2, 32767)", x.set(1, 2, 32767), 32767);
        Sun.due("set(1, 2, 32768)", x.set(1, 2, 32768), -32768);
        Sun.due("set(1, 2, 65536 + 9)", x.set(1, 2, 65545), 9);
        Sun.due("set(2, 2, MIN)", x.set(2, 2, Integer.MIN_VALUE), Integer.MIN_VALUE);
        Sun.due("set(2, 2, MAX)", x.set(2, 2, Integer.MAX_VALUE), Integer.MAX_VALUE);
        x.row(3, 0, 0);
        Sun.due("set(3, 0, 0) of no items", x.set(3, 0, 0), Sun.PLACE);
    }

    private static void copy() {
        LastSun x = new LastSun();
        x.row(0, 0, 4);
        x.row(1, 1, 4);
        x.row(2, 0, 2);
        Sun.due("copy(-1, ..)", x.copy(-1, 0, 0, 0, 1), Sun.BAD);
        Sun.due("copy(.., 8, ..)", x.copy(0, 0, 8, 0, 1), Sun.BAD);
        Sun.due("BAD ahead of NULL", x.copy(7, 0, 8, 0, 1), Sun.BAD);
        Sun.due("from a missing row", x.copy(7, 0, 0, 0, 1), Sun.NULL);
        Sun.due("to a missing row", x.copy(0, 0, 7, 0, 1), Sun.NULL);
        Sun.due("NULL ahead of PLACE", x.copy(0, -1, 7, 0, 1), Sun.NULL);
        Sun.due("STORE ahead of PLACE", x.copy(0, -1, 1, 9, 99), Sun.STORE);
        Sun.due("i below 0", x.copy(0, -1, 2, 0, 1), Sun.PLACE);
        Sun.due("j below 0", x.copy(0, 0, 2, -1, 1), Sun.PLACE);
        Sun.due("n below 0", x.copy(0, 0, 2, 0, -1), Sun.PLACE);
        Sun.due("beyond the end of a", x.copy(2, 1, 0, 0, 2), Sun.PLACE);
        Sun.due("beyond the end of b", x.copy(0, 0, 2, 1, 2), Sun.PLACE);
        Sun.due("i and n far beyond", x.copy(0, Integer.MAX_VALUE, 2, 0, Integer.MAX_VALUE), Sun.PLACE);
        Sun.due("j and n far beyond", x.copy(0, 1, 2, Integer.MAX_VALUE, 1), Sun.PLACE);
        Sun.due("none, at both ends", x.copy(0, 4, 2, 2, 0), 0);
        Sun.due("none, behind the end", x.copy(0, 5, 2, 2, 0), Sun.PLACE);
        Sun.due("two", x.copy(0, 2, 2, 0, 2), 2);
    }

    /** Prices of 1, 2, 4, .. make each SUM, thus each ITEM, one that can be told apart. */
    private static void overlap() {
        LastSun x = Sun.on("law 0 0;sun 1 1 1 1 1 1;guest lone 1 1 1;", 1);
        Sun.row(x, 0, 1, 2, 3, 4, 5);
        Sun.due("copy forward onto itself", x.copy(0, 0, 0, 1, 4), 4);
        dueItems(x, 0, 1, 1, 2, 3, 4);
        Sun.row(x, 0, 1, 2, 3, 4, 5);
        Sun.due("copy backward onto itself", x.copy(0, 1, 0, 0, 4), 4);
        dueItems(x, 0, 2, 3, 4, 5, 5);
        Sun.row(x, 1, 6, 6, 6);
        Sun.due("copy to another", x.copy(0, 2, 1, 1, 2), 2);
        dueItems(x, 1, 6, 4, 5);
    }

    private static void dueItems(LastSun x, int row, int... items) {
        x.row(7, 2, 1);
        for (int i = 0; i < items.length; i++) {
            x.copy(row, i, 7, 0, 1);
            Sun.due("item " + i + " of row " + row, x.explained(7, 0), items[i]);
        }
    }

    private static void drop() {
        LastSun x = new LastSun();
        Sun.due("drop(-1)", x.drop(-1), Sun.BAD);
        Sun.due("drop(8)", x.drop(8), Sun.BAD);
        Sun.due("drop(3)", x.drop(3), Sun.NULL);
        x.row(3, 1, 17);
        Sun.due("drop(3) of 17", x.drop(3), 17);
        Sun.due("count(0)", x.count(0), 0);
        Sun.due("drop(3) again", x.drop(3), Sun.NULL);
        Sun.due("set(3, 0, 0)", x.set(3, 0, 0), Sun.NULL);
        x.row(3, 1, 0);
        Sun.due("drop(3) of none", x.drop(3), 0);
    }

    private static void status() {
        LastSun x = new LastSun();
        x.set(0, 0, 0);
        Sun.due("status() of NULL", x.status(), 1);
        x.set(9, 0, 0);
        Sun.due("status() stays by BAD", x.status(), 1);
        x.worth(0, 0, 0);
        Sun.due("status() stays by STATE", x.status(), 1);
        x.feed(0, 8);
        x.count(0);
        x.beach();
        Sun.due("status() stays by calls without a ROW", x.status(), 1);
        x.row(0, 0, 1);
        Sun.due("status() of a good one", x.status(), 0);
        x.set(0, 1, 0);
        Sun.due("status() of PLACE", x.status(), 2);
        x.set(0, 0, 0);
        Sun.due("status() of a good set", x.status(), 0);
        x.row(0, 0, -1);
        Sun.due("status() of SIZE", x.status(), 4);
        x.copy(0, 0, 0, 0, 1);
        Sun.due("status() of a good copy", x.status(), 0);
        x.row(1, 1, 1);
        x.copy(0, 0, 1, 0, 1);
        Sun.due("status() of STORE", x.status(), 5);
        x.drop(1);
        Sun.due("status() of a good drop", x.status(), 0);
    }
}
