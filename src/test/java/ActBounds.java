/** Promises 9 to 17, and what the Terms say of PRICES, ACTS and sunsets: each sentence, at its bounds. */
final class ActBounds extends Bounds {
    private static final Scenes.Scene RICH = Scenes.RICH, EVENING = Scenes.EVENING, NO_BEACH = Scenes.NO_BEACH;
    /** One GUEST without a PURSE, who owes what the heat costs. */
    private static final String DEBTOR = "law 2 0;sun 30 30 30 8 1 1;guest lone 0 0 6;";
    private static final int[] NO_GUEST = {MIN, -1, 4, MAX};

    private ActBounds() {
    }

    static void run() {
        numbers();
        price();
        acts();
        forgotten();
        hour();
        leave();
        cloud();
        shade();
        gift();
        giftToDebt();
        purses();
        sunset();
        nextDay();
        tenths();
        mostDebt();
        mostDebtByPay();
        lastDay();
        undo();
        lastCall();
        guest();
        priceOfHours();
    }

    private static void numbers() {
        says(0, "Numbers go from 0 on.");
        answers(RICH, 6, "guest", 0, 0);
        answers(RICH, 8, "guest", 3, 0);
        answers(RICH, 3, "price", 0);
        answers(RICH, 2, "price", 5);
        refused(RICH, BAD, "guest", 4, 0);
        refused(RICH, BAD, "price", 6);
    }

    private static void price() {
        says(0, "PRICE of an HOUR: as told, half of it (cut) in one that is cloudy.");
        Scenes.Scene scene = Scenes.read("law 0 0;sun 0 1 2 3 29 30;guest lone 1 1 1;");
        int[] told = {0, 1, 2, 3, 29, 30};
        int[] cloudy = {0, 0, 1, 1, 14, 15};
        LastSun x = Scenes.after(scene);
        for (int h = 0; h < 6; h++) {
            due(x, told[h], "price", h);
            due(x, cloudy[h], "cloud", h);
            due(x, cloudy[h], "price", h);
        }
        for (int h = 0; h < 6; h++) {
            due(x, cloudy[h], "hour");
            due(x, cloudy[h], "price", h);
        }
        due(x, 31, "sunset");
    }

    /** Each ACT is one to undo, and undone it is as if it had not been. */
    private static void acts() {
        says(0, "each can be undone, the latest first):");
        Object[][] acts = {{RICH, "hour"}, {RICH, "leave", 1}, {RICH, "cloud", 5}, {RICH, "shade", 0, 1},
            {RICH, "shade", 1, 0}, {RICH, "gift", 2, 999}, {RICH, "gift", 3, 1}, {EVENING, "sunset"},
            {EVENING, "leave", 3}, {RICH, "cloud", 2}, {RICH, "shade", 0, 0}};
        for (Object[] act : acts) {
            Scenes.Scene scene = (Scenes.Scene) act[0];
            long[] args = new long[act.length - 2];
            for (int i = 0; i < args.length; i++) {
                args[i] = (Integer) act[i + 2];
            }
            dueUndone(scene, (String) act[1], args);
        }
    }

    private static void dueUndone(Scenes.Scene scene, String name, long... args) {
        LastSun x = Scenes.after(scene);
        int ahead = x.count(4);
        call(x, name, args);
        Sun.due("acts behind " + label(name, args), x.count(4), ahead + 1);
        due(x, ahead, "undo");
        for (Probes.Probe probe : Probes.ALL) {
            LastSun y = Scenes.after(scene);
            call(y, name, args);
            y.undo();
            dueAlike(label(name, args) + ", undone,", Probes.seenBy(probe, y),
                Probes.seenBy(probe, Scenes.after(scene)), "");
        }
    }

    private static void forgotten() {
        says(0, "ACTS (24 at most are kept, of more the oldest is forgotten;");
        for (int many : new int[] {1, 23, 24, 25, 48, 49, 60}) {
            LastSun x = Scenes.after(Scenes.MORNING);
            for (int i = 1; i <= many; i++) {
                x.gift(0, 1);
                due(x, Math.min(i, 24), "count", 4);
            }
            int kept = Math.min(many, 24);
            for (int left = kept - 1; left >= 0; left--) {
                due(x, left, "undo");
                due(x, 40 + many - kept + left, "guest", 0, 1);
            }
            due(x, STATE, "undo");
            due(x, 40 + many - kept, "guest", 0, 1);
            due(x, 0, "count", 4);
            due(x, 0, "shade", 0, 1);
            due(x, 0, "undo");
            due(x, STATE, "undo");
        }
    }

    private static void hour() {
        says(0, "an HOUR goes by;");
        says(9, "The HOUR that is to come goes by: its PRICE, 0 if nobody is there.");
        int[] prices = {3, 5, 9, 6, 4, 2};
        LastSun x = Scenes.after(Scenes.MORNING);
        for (int h = 0; h < 6; h++) {
            due(x, prices[h], "hour");
            due(x, h + 1, "count", 2);
        }
        LastSun y = Scenes.after(Scenes.MORNING);
        for (int g = 0; g < 3; g++) {
            y.leave(g);
        }
        due(y, 3, "hour");
        y.leave(3);
        due(y, 0, "hour");
        due(y, 2, "count", 2);
        answers(Scenes.read("law 0 0;sun 9 9 9 9 9 9;"), 0, "hour");
        says(9, "STATE: no BEACH; FULL: HOUR 5 is gone.");
        refused(NO_BEACH, STATE, "hour");
        refused(EVENING, FULL, "hour");
        Scenes.Scene last = z -> {
            EVENING.play(z);
            z.undo();
        };
        answers(last, 2, "hour");
        Scenes.Scene nobody = z -> {
            Scenes.read("law 0 0;sun 9 9 9 9 9 9;").play(z);
            Sun.hours(z, 6);
        };
        refused(nobody, FULL, "hour");
    }

    private static void leave() {
        says(0, "a GUEST leaves (it was there in all HOURS so far);");
        says(10, "A GUEST leaves: in how many HOURS it was there.");
        for (int hours = 0; hours <= 6; hours++) {
            LastSun x = Scenes.after(Scenes.MORNING);
            Sun.hours(x, hours);
            due(x, hours, "leave", 3);
            due(x, 0, "guest", 3, 3);
            due(x, 3, "count", 5);
            Sun.hours(x, 6 - hours);
            due(x, hours, "guest", 3, 4);
            due(x, 6, "guest", 0, 4);
        }
        says(10, "BAD; STATE: it has left.");
        for (int guest : NO_GUEST) {
            refused(RICH, BAD, "leave", guest);
        }
        refused(NO_BEACH, BAD, "leave", 0);
        refused(RICH, STATE, "leave", 0);
        answers(RICH, 2, "leave", 1);
        answers(RICH, 2, "leave", 3);
        refused(EVENING, STATE, "leave", 0);
        answers(EVENING, 6, "leave", 1);
    }

    private static void cloud() {
        says(0, "a coming HOUR becomes cloudy;");
        says(11, "An HOUR (0 to 5) becomes cloudy: its PRICE then.");
        answers(Scenes.MORNING, 1, "cloud", 0);
        answers(Scenes.MORNING, 1, "cloud", 5);
        answers(RICH, 4, "cloud", 2);
        says(11, "BAD; STATE: no BEACH (ahead of BAD), it is cloudy, it is gone.");
        for (int hour : new int[] {MIN, -1, 6, MAX}) {
            refused(RICH, BAD, "cloud", hour);
            refused(EVENING, BAD, "cloud", hour);
            refused(NO_BEACH, STATE, "cloud", hour);
        }
        refused(NO_BEACH, STATE, "cloud", 0);
        refused(RICH, STATE, "cloud", 4);
        refused(RICH, STATE, "cloud", 0);
        refused(RICH, STATE, "cloud", 1);
        answers(RICH, 4, "cloud", 2);
        answers(RICH, 3, "cloud", 3);
        answers(RICH, 1, "cloud", 5);
        for (int hour = 0; hour < 6; hour++) {
            refused(EVENING, STATE, "cloud", hour);
        }
    }

    private static void shade() {
        says(0, "a GUEST goes under an umbrella, or out of it;");
        says(12, "A GUEST goes under an umbrella (1), or out of it (0): how it was.");
        for (int guest = 0; guest < 4; guest++) {
            int was = guest == 1 || guest == 2 ? 1 : 0;
            for (int is = 0; is <= 1; is++) {
                LastSun x = answers(RICH, was, "shade", guest, is);
                due(x, is, "guest", guest, 5);
                due(x, 17, "count", 4);
                due(x, is, "shade", guest, 1 - is);
                due(x, 1 - is, "guest", guest, 5);
            }
        }
        says(12, "BAD.");
        for (int guest : NO_GUEST) {
            refused(RICH, BAD, "shade", guest, 1);
        }
        for (int is : new int[] {MIN, -1, 2, MAX}) {
            refused(RICH, BAD, "shade", 0, is);
        }
        refused(NO_BEACH, BAD, "shade", 0, 1);
    }

    private static void gift() {
        says(13, "A GIFT of n (1 to 999): DEBT then.");
        answers(RICH, 0, "gift", 3, 1);
        answers(RICH, 0, "gift", 3, 999);
        says(13, "BAD; FULL: a PURSE above 9999.");
        for (int n : new int[] {MIN, -1, 0, 1000, MAX}) {
            refused(RICH, BAD, "gift", 3, n);
            refused(RICH, BAD, "gift", 4, n);
        }
        for (int guest : NO_GUEST) {
            refused(RICH, BAD, "gift", guest, 1);
        }
        refused(NO_BEACH, BAD, "gift", 0, 1);
    }

    private static void purses() {
        Scenes.Scene of9000 = x -> {
            RICH.play(x);
            for (int i = 0; i < 9; i++) {
                x.gift(3, i < 8 ? 999 : 9000 - 8 * 999 - 87);
            }
        };
        LastSun x = answers(of9000, 0, "gift", 3, 999);
        due(x, 9999, "guest", 3, 1);
        due(x, FULL, "gift", 3, 1);
        due(x, BAD, "gift", 3, 0);
        Scenes.Scene of9001 = y -> {
            of9000.play(y);
            y.gift(3, 1);
        };
        refused(of9001, FULL, "gift", 3, 999);
        refused(of9001, BAD, "gift", 3, 1000);
        answers(of9001, 0, "gift", 3, 998);
        answers(of9001, 0, "gift", 1, 999);
    }

    private static void giftToDebt() {
        says(0, "a GIFT to a GUEST: its DEBT is as much less, what is over comes to its PURSE;");
        int[] gifts = {1, 99, 100, 101, 999};
        for (int gift : gifts) {
            LastSun x = indebted();
            due(x, 100, "guest", 0, 6);
            due(x, Math.max(0, 100 - gift), "gift", 0, gift);
            due(x, Math.max(0, 100 - gift), "guest", 0, 6);
            due(x, Math.max(0, gift - 100), "guest", 0, 1);
            due(x, Math.max(0, 100 - gift), "count", 6);
        }
    }

    /** DEBTOR behind a DAY of SUM 100. */
    private static LastSun indebted() {
        LastSun x = Scenes.after(Scenes.read(DEBTOR));
        Sun.hours(x, 6);
        due(x, 100, "sunset");
        return x;
    }

    private static void sunset() {
        says(14, "Sunset: SUM.");
        for (int hours = 0; hours <= 6; hours++) {
            LastSun x = Scenes.after(Scenes.MORNING);
            Sun.hours(x, hours);
            for (int g = 0; g < 4; g++) {
                x.leave(g);
            }
            Sun.hours(x, 6 - hours);
            due(x, new int[] {0, 3, 8, 17, 23, 27, 29}[hours], "sunset");
            due(x, 1, "count", 3);
        }
        LastSun y = Scenes.after(Scenes.read("law 1 9;sun 9 9 9 9 9 9;"));
        Sun.hours(y, 6);
        due(y, 0, "sunset");
        says(14, "STATE: no BEACH, HOUR 5 is not gone; FULL: it is DAY 999.");
        refused(NO_BEACH, STATE, "sunset");
        refused(RICH, STATE, "sunset");
        Scenes.Scene five = x -> {
            EVENING.play(x);
            x.undo();
        };
        refused(five, STATE, "sunset");
        answers(EVENING, 27, "sunset");
    }

    /** Behind 512 calls an object is free; this shows no more than that DAY 999 is the last one here. */
    private static void lastDay() {
        LastSun x = Scenes.after(Scenes.read("law 0 0;sun 1 1 1 1 1 1;"));
        for (int day = 0; day < 999; day++) {
            Sun.hours(x, 6);
            due(x, 0, "sunset");
        }
        due(x, STATE, "sunset");
        Sun.hours(x, 6);
        due(x, FULL, "sunset");
        due(x, 999, "count", 3);
        due(x, 6, "count", 2);
        due(x, 24, "count", 4);
    }

    private static void nextDay() {
        says(0, "sunset (behind HOUR 5):");
        says(0, "then it is the next DAY: all are there again, no HOUR is cloudy, umbrellas stay.");
        LastSun x = Scenes.after(EVENING);
        due(x, 1, "count", 3);
        due(x, 2, "price", 4);
        due(x, 27, "sunset");
        due(x, 2, "count", 3);
        due(x, 0, "count", 2);
        due(x, 4, "count", 5);
        int[] umbrellas = {0, 1, 1, 0};
        for (int g = 0; g < 4; g++) {
            due(x, 1, "guest", g, 3);
            due(x, 0, "guest", g, 4);
            due(x, umbrellas[g], "guest", g, 5);
        }
        int[] prices = {3, 5, 9, 6, 4, 2};
        for (int h = 0; h < 6; h++) {
            due(x, prices[h], "price", h);
        }
        due(x, STATE, "sunset");
        due(x, 3, "hour");
    }

    /** Who leaves at once pays nothing, so a DEBT grows by its tenth alone. */
    private static void tenths() {
        says(0, "All that is divided is cut towards 0,");
        says(0, "each DEBT becomes a tenth (cut) more, then each PAYS out of its PURSE,");
        int[] debts = {0, 1, 9, 10, 11, 19, 20, 99, 100};
        int[] grown = {0, 1, 9, 11, 12, 20, 22, 108, 110};
        for (int i = 0; i < debts.length; i++) {
            LastSun x = indebted();
            if (debts[i] < 100) {
                due(x, debts[i], "gift", 0, 100 - debts[i]);
            }
            due(x, grown[i], "owes", 0, 1);
            x.leave(0);
            Sun.hours(x, 6);
            due(x, 0, "sunset");
            due(x, grown[i], "guest", 0, 6);
            due(x, 0, "guest", 0, 1);
        }
        dueTenthAheadOfPay();
        duePurses();
    }

    /** 100 grows to 110, then 98 more are owed; were it the other way round, 217 were. */
    private static void dueTenthAheadOfPay() {
        LastSun x = indebted();
        Sun.hours(x, 4);
        x.leave(0);
        Sun.hours(x, 2);
        due(x, 98, "sunset");
        due(x, 208, "guest", 0, 6);
    }

    /** A PURSE of 99, 100, 101 for a PAY of 100. */
    private static void duePurses() {
        int[] purses = {0, 99, 100, 101};
        for (int purse : purses) {
            LastSun x = Scenes.after(Scenes.read(DEBTOR.replace("lone 0 0", "lone 0 " + purse)));
            Sun.hours(x, 6);
            due(x, 100, "sunset");
            due(x, Math.max(0, purse - 100), "guest", 0, 1);
            due(x, Math.max(0, 100 - purse), "guest", 0, 6);
        }
    }

    /** DEBTOR with a DEBT of so much, at least 9000. */
    private static LastSun owing(int debt) {
        LastSun x = Scenes.after(Scenes.read(DEBTOR));
        for (int day = 0; day < 30 && x.guest(0, 6) < 9999; day++) {
            Sun.hours(x, 6);
            x.sunset();
        }
        if (debt < 9999) {
            due(x, debt, "gift", 0, 9999 - debt);
        }
        return x;
    }

    private static void mostDebt() {
        says(0, "what is not there becomes DEBT more (9999 at most);");
        int[] debts = {9089, 9090, 9091, 9999};
        int[] grown = {9997, 9999, 9999, 9999};
        for (int i = 0; i < debts.length; i++) {
            LastSun x = owing(debts[i]);
            due(x, grown[i], "owes", 0, 1);
            x.leave(0);
            Sun.hours(x, 6);
            due(x, 0, "sunset");
            due(x, grown[i], "guest", 0, 6);
            due(x, grown[i], "count", 6);
        }
    }

    /** 9000 grows to 9900, then 98, 99, 100 more are owed. */
    private static void mostDebtByPay() {
        for (int hours = 4; hours <= 6; hours++) {
            LastSun x = owing(9000);
            Sun.hours(x, hours);
            x.leave(0);
            Sun.hours(x, 6 - hours);
            due(x, 94 + hours, "sunset");
            due(x, Math.min(9999, 9994 + hours), "guest", 0, 6);
        }
    }

    private static void undo() {
        says(15, "The latest ACT is undone: how many can be undone yet.");
        LastSun x = Scenes.after(RICH);
        for (int left = 15; left >= 0; left--) {
            due(x, left, "undo");
            due(x, left, "count", 4);
        }
        due(x, 0, "count", 2);
        due(x, 0, "count", 3);
        undoHoursOfWhoLeft();
        says(15, "STATE: none.");
        refused(NO_BEACH, STATE, "undo");
        refused(Scenes.MORNING, STATE, "undo");
        Scenes.Scene undone = y -> {
            RICH.play(y);
            for (int i = 0; i < 16; i++) {
                y.undo();
            }
        };
        refused(undone, STATE, "undo");
        Scenes.Scene one = y -> {
            Scenes.MORNING.play(y);
            y.hour();
        };
        answers(one, 0, "undo");
        due(x, STATE, "undo");
    }

    /** The 511th and the 512th call answer as the first ones. */
    private static void lastCall() {
        says(Doc.WHAT_IT_IS, "An object is used for at most 512 calls after it has been made; "
            + "what later calls answer is free.");
        LastSun x = Scenes.after(Scenes.read("law 0 0;sun 7 1 1 1 1 1;guest lone 1 1 1;"));
        int callsSoFar = 6 + 1;
        due(x, 1, "count", 1);
        for (int call = callsSoFar + 1; call < 512; call += 2) {
            due(x, 7, "hour");
            due(x, 0, "undo");
        }
    }

    /** GUEST 2 left behind 3 HOURS of DAY 0, and behind 5 of DAY 1; GUEST 0 behind 1 of DAY 1. */
    private static void undoHoursOfWhoLeft() {
        LastSun x = Scenes.after(RICH);
        Sun.hours(x, 3);
        due(x, 5, "leave", 2);
        due(x, 19, "undo");
        due(x, 5, "guest", 2, 4);
        due(x, 1, "guest", 2, 3);
        due(x, 5, "leave", 2);
        for (int left = 19; left >= 10; left--) {
            due(x, left, "undo");
        }
        due(x, 0, "guest", 2, 4);
        due(x, 1, "guest", 2, 3);
        due(x, 9, "undo");
        due(x, 3, "guest", 2, 4);
        due(x, 0, "guest", 2, 3);
        due(x, 6, "guest", 0, 4);
        due(x, 24, "sunset");
        due(x, 2, "guest", 2, 6);
    }

    private static void guest() {
        says(16, "Of a GUEST: 0 WARMTH, 1 PURSE, 2 BURN, 3 whether it is there (1, 0), "
            + "4 in how many HOURS of this DAY it was, 5 whether it is under an umbrella, 6 DEBT.");
        int[][] due = {{6, 40 - 7, 4, 0, 1, 0, 0}, {3, 0, 6, 1, 2, 1, 5 + 12 - 9},
            {4, 0, 2, 1, 2, 1, 2}, {8, 90 - 10 + 7, 5, 1, 2, 0, 0}};
        for (int guest = 0; guest < 4; guest++) {
            for (int what = 0; what <= 6; what++) {
                quiet(RICH, due[guest][what], "", "guest", guest, what);
            }
        }
        says(16, "BAD.");
        for (int guest : NO_GUEST) {
            refused(RICH, BAD, "guest", guest, 0);
        }
        for (int what : new int[] {MIN, -1, 7, MAX}) {
            refused(RICH, BAD, "guest", 0, what);
        }
        refused(NO_BEACH, BAD, "guest", 0, 0);
    }

    private static void priceOfHours() {
        says(17, "PRICE of an HOUR.");
        int[] prices = {3, 5, 9, 6, 2, 2};
        for (int h = 0; h < 6; h++) {
            quiet(RICH, prices[h], "", "price", h);
        }
        says(17, "BAD; STATE: no BEACH (ahead of BAD).");
        for (int hour : new int[] {MIN, -1, 6, MAX}) {
            refused(RICH, BAD, "price", hour);
            refused(NO_BEACH, STATE, "price", hour);
        }
        refused(NO_BEACH, STATE, "price", 0);
    }
}
