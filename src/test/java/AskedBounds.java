/** Promises 30 to 35, and what the Terms say of KINDS and ASKS: each sentence, at its bounds. */
final class AskedBounds extends Bounds {
    private static final Scenes.Scene RICH = Scenes.RICH, NO_BEACH = Scenes.NO_BEACH;
    private static final String HEAD = "law 0 0;sun 10 10 10 10 10 10;";
    private static final String[] SORTS = {"lone", "aunt", "child", "band", "clan"};
    private static final int[] NO_GUEST = {MIN, -1, 4, MAX};
    private static final int SIZE_ASK = 0, MARK_ASK = 1;

    private AskedBounds() {
    }

    static void run() {
        kind();
        as();
        bodies();
        bodiesOfTheGuestAnew();
        ask();
        trace();
        count();
        status();
        statusStays();
    }

    private static void kind() {
        says(0, "Ahead of the calls `kind`, `as`, `ask`, `trace`, `count`, `status` the interface says: ---- asked.");
        says(30, "The KIND of a GUEST, as told (1 to 5).");
        int[] kinds = {1, 2, 3, 5};
        for (int g = 0; g < 4; g++) {
            quiet(RICH, kinds[g], "", "kind", g);
        }
        for (int s = 0; s < 5; s++) {
            answers(Scenes.read(HEAD + "guest " + SORTS[s] + " 1 1 1;"), s + 1, "kind", 0);
        }
        says(30, "BAD.");
        for (int guest : NO_GUEST) {
            refused(RICH, BAD, "kind", guest);
        }
        refused(Scenes.read(HEAD + "guest lone 1 1 1;"), BAD, "kind", 1);
        refused(Scenes.read(HEAD), BAD, "kind", 0);
        refused(NO_BEACH, BAD, "kind", 0);
    }

    private static void as() {
        says(0, "KINDS of GUESTS: 0 GUEST; 1 LONE, a GUEST; 2 AUNT, a LONE one; 3 CHILD, a LONE one; 4 BAND, a GUEST; "
            + "5 CLAN, a BAND. By this it is asked.");
        String[] are = {"110000", "111000", "110100", "100010", "100011"};
        for (int s = 0; s < 5; s++) {
            Scenes.Scene scene = Scenes.read(HEAD + "guest lone 1 1 1;guest " + SORTS[s] + " 1 1 1;");
            for (int kind = 0; kind <= 5; kind++) {
                if (are[s].charAt(kind) == '1') {
                    quiet(scene, 1, "status()", "as", 1, kind);
                } else {
                    refused(scene, KIND, "as", 1, kind);
                }
            }
        }
        says(31, "A GUEST is taken as one of a KIND (0 .. 5): its number.");
        quiet(RICH, 0, "status()", "as", 0, 0);
        quiet(RICH, 3, "status()", "as", 3, 5);
        due(answers(RICH, 3, "as", 3, 5), 0, "status");
        says(31, "BAD; KIND: it is no such one.");
        for (int guest : NO_GUEST) {
            refused(RICH, BAD, "as", guest, 0);
            refused(RICH, BAD, "as", guest, 6);
        }
        for (int kind : new int[] {MIN, -1, 6, MAX}) {
            refused(RICH, BAD, "as", 0, kind);
        }
        refused(NO_BEACH, BAD, "as", 0, 0);
        refused(RICH, KIND, "as", 0, 5);
        refused(RICH, KIND, "as", 3, 1);
    }

    private static void dueAsk(LastSun x, int guest, int what, int answer, int... bodies) {
        due(x, answer, "ask", guest, what);
        for (int i = 0; i < bodies.length; i++) {
            due(x, bodies[i], "trace", i);
        }
        for (int i = bodies.length; i <= 16; i++) {
            due(x, NONE, "trace", i);
        }
    }

    /** GUEST 1 of each SORT, with a PURSE of 150, then with a DEBT of 30. */
    private static void bodies() {
        says(0, "ASKS of GUESTS, by BODIES, each of which leaves its number in THE TRACE as it begins (the first 16): "
            + "0 SIZE: 10 lent to all GUESTS: PURSE. 11 of LONE ones: what 10 gives, and MARK. "
            + "12 of AUNTS: 0 less what 11 gives. 13 of BANDS: what 10 gives, less 100. "
            + "14 of CLANS: what 13 gives, twice. 1 MARK: 20 lent to all GUESTS: its number. "
            + "21 of LONE ones: what 20 gives, and DEBT. 22 of CHILDREN: what 21 gives, less 1000. "
            + "23 of BANDS: what 20 gives, less SIZE. 24 of AUNTS: what 21 gives, twice.");
        int[] sizes = {150 + 1, -(150 + 2), 150 + 1 - 1000, 50, 100};
        int[] marks = {1, 2, 1 - 1000, 1 - 50, 1 - 100};
        dueAsks(x -> { }, "150", sizes, marks);
        int[] sizesThen = {31, -62, 31 - 1000, -100, -200};
        int[] marksThen = {31, 62, 31 - 1000, 1 + 100, 1 + 200};
        dueAsks(AskedBounds::runIntoDebt, "0", sizesThen, marksThen);
    }

    /** A DAY of one HOUR for GUEST 0, of 3 for GUEST 1, who pays 30. */
    private static void runIntoDebt(LastSun x) {
        x.hour();
        x.leave(0);
        Sun.hours(x, 2);
        x.leave(1);
        Sun.hours(x, 3);
        due(x, 30, "sunset");
        due(x, 30, "guest", 1, 6);
    }

    private static void dueAsks(Scenes.Scene ahead, String purse, int[] sizes, int[] marks) {
        int[][] traceOfSize = {{11, 10, 21, 20}, {12, 11, 10, 24, 21, 20}, {11, 10, 22, 21, 20}, {13, 10}, {14, 13, 10}};
        int[][] traceOfMark = {{21, 20}, {24, 21, 20}, {22, 21, 20}, {23, 20, 13, 10}, {23, 20, 14, 13, 10}};
        for (int s = 0; s < 5; s++) {
            LastSun x = Sun.on(HEAD + "guest lone 1 0 1;guest " + SORTS[s] + " 1 " + purse + " 1;", 2);
            ahead.play(x);
            dueAsk(x, 1, SIZE_ASK, sizes[s], traceOfSize[s]);
            dueAsk(x, 1, MARK_ASK, marks[s], traceOfMark[s]);
            dueAsk(x, 1, SIZE_ASK, sizes[s], traceOfSize[s]);
        }
    }

    /** A child has no SIZE of its own, a clan no MARK: what is asked within goes to the GUEST's own KIND. */
    private static void bodiesOfTheGuestAnew() {
        says(0, "(Of an ask the BODY told for the KIND begins, else that of the nearest KIND that it is, too, "
            + "else the one that is lent; SIZE, MARK within others are asked of the same GUEST anew.)");
        LastSun x = Sun.on(HEAD + "guest child 1 7 1;guest clan 1 107 1;", 2);
        dueAsk(x, 0, SIZE_ASK, 7 - 1000, 11, 10, 22, 21, 20);
        dueAsk(x, 1, MARK_ASK, 1 - 14, 23, 20, 14, 13, 10);
    }

    private static void ask() {
        says(32, "An ASK (0, 1) of a GUEST.");
        quiet(RICH, 33, "trace(", "ask", 0, 0);
        quiet(RICH, 0, "trace(", "ask", 0, 1);
        quiet(RICH, -26, "trace(", "ask", 3, 0);
        quiet(RICH, 3 + 26, "trace(", "ask", 3, 1);
        says(32, "THE TRACE is empty ahead of it.");
        LastSun x = Scenes.after(RICH);
        dueAsk(x, 1, SIZE_ASK, -18, 12, 11, 10, 24, 21, 20);
        dueAsk(x, 3, SIZE_ASK, -26, 14, 13, 10);
        dueAsk(x, 0, MARK_ASK, 0, 21, 20);
        says(32, "BAD.");
        for (int guest : NO_GUEST) {
            refused(RICH, BAD, "ask", guest, 0);
        }
        for (int what : new int[] {MIN, -1, 2, MAX}) {
            refused(RICH, BAD, "ask", 0, what);
        }
        refused(NO_BEACH, BAD, "ask", 0, 0);
    }

    private static void trace() {
        says(33, "Number i of THE TRACE; NONE.");
        int[] trace = {12, 11, 10, 24, 21, 20};
        for (int i = 0; i < 6; i++) {
            quiet(RICH, trace[i], "", "trace", i);
        }
        for (int i : new int[] {MIN, -1, 6, 7, 15, 16, 17, MAX}) {
            quiet(RICH, NONE, "", "trace", i);
        }
        quiet(NO_BEACH, NONE, "", "trace", 0);
    }

    private static void count() {
        says(34, "How many: 0 ROWS, 1 GUESTS, 2 HOURS of this DAY gone, 3 DAYS gone, 4 ACTS that can be undone, "
            + "5 GUESTS that are there, 6 DEBT in all, 7 bytes on the tape.");
        int[] rich = {5, 4, 2, 1, 16, 3, 8 + 2, Scenes.UNREAD.length()};
        int[] none = {5, 0, 0, 0, 0, 0, 0, Scenes.UNREAD.length()};
        for (int what = 0; what <= 7; what++) {
            quiet(RICH, rich[what], "", "count", what);
            quiet(NO_BEACH, none[what], "", "count", what);
        }
        LastSun x = new LastSun();
        for (int r = 0; r < 8; r++) {
            due(x, r, "count", 0);
            x.row(r, 0, 0);
        }
        due(x, 8, "count", 0);
        says(34, "BAD.");
        for (int what : new int[] {MIN, -1, 8, MAX}) {
            refused(RICH, BAD, "count", what);
            refused(NO_BEACH, BAD, "count", what);
        }
    }

    /** Each call with a ROW, or as(), at its best, behind a FINDING. */
    private static void status() {
        says(35, "Of the latest call with a ROW, or as(), that was not BAD, STATE, FULL: the number of its FINDING; "
            + "0: it had none, or there was none.");
        due(new LastSun(), 0, "status");
        Object[][] calls = {{"row", 7, 0, 1}, {"set", 0, 0, 1}, {"copy", 0, 0, 0, 1, 1}, {"drop", 0}, {"worth", 0, 0, 0},
            {"best", 0, 0}, {"rounds", 0, -1}, {"pact", 0, 0, 1, 0}, {"explained", 0, -1}, {"laws", 0, 0},
            {"owner", 0, 0}, {"as", 0, 1}};
        for (Object[] told : calls) {
            LastSun x = Scenes.after(RICH);
            due(x, 3, "status");
            call(x, (String) told[0], numbers(told));
            Sun.due("status() behind " + told[0], x.status(), 0);
        }
        LastSun y = Scenes.after(RICH);
        int[] found = {y.row(0, 0, -1), y.status(), y.set(5, 0, 0), y.status(), y.copy(0, 0, 1, 0, 0), y.status(),
            y.drop(7), y.status(), y.worth(2, 0, 0), y.status(), y.as(3, 3), y.status()};
        int[] due = {SIZE, 4, NULL, 1, STORE, 5, NULL, 1, PLACE, 2, KIND, 3};
        for (int i = 0; i < found.length; i++) {
            Sun.due("finding and status() " + i, found[i], due[i]);
        }
    }

    private static long[] numbers(Object[] told) {
        long[] numbers = new long[told.length - 1];
        for (int i = 0; i < numbers.length; i++) {
            numbers[i] = (Integer) told[i + 1];
        }
        return numbers;
    }

    /** Calls without a ROW, and those that are BAD, STATE, FULL, leave it. */
    private static void statusStays() {
        Object[][] calls = {{"feed", 32, 1}, {"feed", 0, 9}, {"fault"}, {"hour"}, {"leave", 1}, {"leave", 0}, {"leave", 4},
            {"cloud", 5}, {"cloud", 0}, {"cloud", 6}, {"shade", 0, 1}, {"shade", 0, 2}, {"gift", 0, 1}, {"gift", 0, 0},
            {"sunset"}, {"undo"}, {"guest", 0, 0}, {"guest", 0, 7}, {"price", 0}, {"price", 6}, {"rests", -1},
            {"rests", 4}, {"alone", 0, 5, 0}, {"alone", 0, 11, 0}, {"owes", 0, 1}, {"owes", 0, 61}, {"image", 0},
            {"image", 2}, {"restore", 0}, {"restore", 2}, {"kind", 0}, {"kind", 4}, {"ask", 0, 0}, {"ask", 0, 2},
            {"trace", 0}, {"trace", 9}, {"count", 0}, {"count", 8}, {"status"}, {"row", 8, 0, 0}, {"row", 0, 0, 41},
            {"set", 8, 0, 0}, {"copy", 8, 0, 0, 0, 0}, {"drop", 8}, {"worth", 0, 4, 0}, {"best", 8, 0},
            {"rounds", 0, -2}, {"pact", 0, 1, 1, 0}, {"explained", 0, 4}, {"laws", 0, 2}, {"owner", 0, 2}, {"as", 0, 6},
            {"beach"}, {"beach"}};
        LastSun x = Scenes.after(RICH);
        for (Object[] told : calls) {
            call(x, (String) told[0], numbers(told));
            Sun.due("status() behind " + label((String) told[0], numbers(told)), x.status(), 3);
        }
        LastSun y = Scenes.after(NO_BEACH);
        for (String name : new String[] {"hour", "sunset", "undo"}) {
            due(y, STATE, name);
            due(y, 2, "status");
        }
        due(y, STATE, "worth", 0, 0, 0);
        due(y, STATE, "laws", 9, 9);
        due(y, 2, "status");
    }
}
