import java.util.Arrays;

/** Promises 18 to 29, and what the Terms say of what is FORETOLD: each sentence, at its bounds. */
final class ForetoldBounds extends Bounds {
    private static final Scenes.Scene RICH = Scenes.RICH, NO_BEACH = Scenes.NO_BEACH;
    private static final String PAIR = "law 0 0;sun 4 4 4 4 4 4;guest lone 3 0 6;guest lone 3 0 6;";
    /** WORTH alone by 0 to 6 HOURS: 0 2 4 2 4 -2 -8. */
    private static final String TWO_BESTS = "law 0 0;sun 1 1 5 1 9 9;guest lone 3 0 6;";
    private static final String RESTLESS = "law 0 0;sun 7 5 10 7 1 8;guest aunt 1 0 4;guest aunt 7 0 6;";
    /** From HOURS 5 2 2 0 it takes 22 rounds, each of which somebody moves in but the last. */
    private static final String SLOW = "law 1 0;sun 7 12 16 14 16 18;"
        + "guest aunt 7 0 6;guest aunt 0 0 6;guest aunt 2 0 6;guest clan 10 0 6;";
    private static final int[] NO_GUEST = {MIN, -1, 4, MAX}, NO_GUEST_NOR_ALL = {MIN, -2, 4, MAX};
    private static final int[] NOT_TO_1 = {MIN, -1, 2, MAX}, NOT_TO_2 = {MIN, -1, 3, MAX};

    private ForetoldBounds() {
    }

    static void run() {
        refusedInOrder();
        itemsFromTheBeginning();
        nothingChanges();
        thisDayAside();
        worth();
        best();
        rounds();
        roundsAtMost();
        rests();
        pact();
        pactHolds();
        alone();
        aloneMeans();
        explained();
        fairest();
        laws();
        owner();
        owes();
        image();
        restore();
    }

    private static long[] with(long first, long... rest) {
        long[] args = new long[rest.length + 1];
        args[0] = first;
        System.arraycopy(rest, 0, args, 1, rest.length);
        return args;
    }

    /** A ROW that is not as told; the other numbers are. */
    private static void refusedByRow(String name, long... rest) {
        for (int row : new int[] {MIN, -1, 8, MAX}) {
            refused(RICH, BAD, name, with(row, rest));
            refused(NO_BEACH, STATE, name, with(row, rest));
        }
        for (int row = 0; row <= 5; row++) {
            refused(NO_BEACH, STATE, name, with(row, rest));
        }
        for (int row = 5; row <= 7; row++) {
            refused(RICH, NULL, name, with(row, rest));
        }
        refused(RICH, PLACE, name, with(2, rest));
        refused(RICH, PLACE, name, with(3, rest));
        for (int row : new int[] {0, 1, 4}) {
            LastSun x = Scenes.after(RICH);
            Sun.due(label(name, with(row, rest)) + " is refused", call(x, name, with(row, rest)) < NONE ? 1 : 0, 0);
            due(x, 0, "status");
        }
        for (int g = 0; g < 4; g++) {
            refusedByItem(g, name, rest);
        }
    }

    private static Scenes.Scene item(int row, int i, int v) {
        return x -> {
            RICH.play(x);
            x.set(row, i, v);
            x.as(0, 5);
        };
    }

    private static void refusedByItem(int g, String name, long... rest) {
        boolean isPay = name.equals("explained");
        refused(item(1, g, -1), BAD, name, with(1, rest));
        refused(item(4, g, MIN), BAD, name, with(4, rest));
        for (int v : new int[] {0, 1, 6, 7, MAX}) {
            int row = v == MAX ? 4 : 1;
            if (v > 6 && !isPay) {
                refused(item(row, g, v), BAD, name, with(row, rest));
            } else {
                LastSun x = Scenes.after(item(row, g, v));
                boolean isRefused = call(x, name, with(row, rest)) < NONE;
                Sun.due(label(name, with(row, rest)) + " by " + v + " is refused", isRefused ? 1 : 0, 0);
            }
        }
        if (g < 3) {
            refused(item(2, g, -1), PLACE, name, with(2, rest));
        }
    }

    /** Other numbers that are not as told: BAD ahead of all that is said of the ROW, but behind STATE. */
    private static void refusedByOthers(String name, long... rest) {
        refused(RICH, BAD, name, with(0, rest));
        refused(RICH, BAD, name, with(5, rest));
        refused(RICH, BAD, name, with(2, rest));
        refused(RICH, BAD, name, with(8, rest));
        refused(item(1, 0, 7), BAD, name, with(1, rest));
        refused(NO_BEACH, STATE, name, with(0, rest));
    }

    private static void refusedInOrder() {
        says(0, "Ahead of the calls `worth`, `best`, `rounds`, `rests`, `pact`, `alone`, `explained`, `laws`, `owner`, "
            + "`owes`, `image`, `restore` the interface says: ---- foretold (told HOURS, PAY of each: as many ITEMS as "
            + "there are GUESTS, of a ROW from its beginning on; refused in this order: STATE: no BEACH; BAD: all but "
            + "ITEMS; NULL; PLACE; then BAD: an ITEM that is no such number (PAY: below 0)).");
        refusedByRow("worth", 0, 0);
        refusedByRow("best", 3);
        refusedByRow("rounds", -1);
        refusedByRow("pact", 0, 1, 0);
        refusedByRow("explained", -1);
        refusedByRow("laws", 0);
        refusedByRow("owner", 1);
    }

    /** As many ITEMS as there are GUESTS, 0 to 4, and whatever behind them; by SPLIT 2 all stay to the end. */
    private static void itemsFromTheBeginning() {
        for (int guests = 0; guests <= 4; guests++) {
            Scenes.Scene scene = Scenes.read("law 2 0;sun 1 1 1 1 1 1;" + "guest lone 2 0 6;".repeat(guests));
            for (int items = 0; items <= 5; items++) {
                LastSun x = Scenes.after(scene);
                x.row(6, 0, items);
                int want = items < guests ? PLACE : guests == 0 ? 1 : 2;
                due(x, want, "rounds", 6, -1);
                due(x, items < guests ? PLACE : 1, "explained", 6, -1);
                if (items > guests) {
                    x.set(6, guests, -7);
                    due(x, want, "rounds", 6, -1);
                    due(x, 1, "explained", 6, -1);
                }
            }
            refused(scene, NULL, "rounds", 6, -1);
        }
    }

    private static void nothingChanges() {
        says(0, "FORETOLD (nothing changes; a DAY from HOUR 0 on, whoever left; PRICES, umbrellas as they are now; "
            + "PURSES aside). Told HOURS: of each GUEST in how many it is there, 0 to 6.");
        long[][] worths = {{0, 0, 0}, {1, 3, 1}, {4, 2, 2}};
        for (long[] args : worths) {
            unchanged(RICH, "status()", "worth", args);
        }
        unchanged(RICH, "status()", "best", 0, 3);
        unchanged(RICH, "status()", "rounds", 0, -1);
        unchanged(RICH, "status()", "rounds", 1, 2);
        unchanged(RICH, "status()", "pact", 0, 0, 1, 0);
        unchanged(RICH, "status()", "pact", 1, 2, 3, 1);
        unchanged(RICH, "status()", "explained", 0, -1);
        unchanged(RICH, "status()", "laws", 0, 0);
        unchanged(RICH, "status()", "laws", 0, 1);
        unchanged(RICH, "status()", "owner", 0, 0);
        unchanged(RICH, "status()", "owner", 4, 1);
        unchanged(RICH, "", "rests", -1);
        unchanged(RICH, "", "rests", 3);
        unchanged(RICH, "", "alone", 0, 5, 0);
        unchanged(RICH, "", "owes", 1, 60);
    }

    private static int[] allForetold(LastSun x) {
        return new int[] {x.worth(0, 0, 0), x.worth(0, 1, 1), x.worth(0, 3, 2), x.best(0, 0), x.best(0, 3),
            x.rounds(0, -1), x.rounds(0, 2), x.rests(-1), x.rests(3), x.pact(0, 0, 1, 0), x.pact(0, 2, 3, 1),
            x.alone(0, 3, 0), x.alone(1, 7, 1), x.explained(1, -1), x.laws(0, 0), x.laws(0, 1), x.owner(0, 0),
            x.owner(0, 1)};
    }

    private static void dueForetold(String behind, LastSun x, int[] want) {
        int[] got = allForetold(x);
        Sun.due("as foretold ahead, behind " + behind + ": " + Arrays.toString(got), Arrays.equals(got, want) ? 1 : 0, 1);
    }

    private static void thisDayAside() {
        LastSun x = Scenes.after(Scenes.MORNING);
        x.shade(1, 1);
        x.cloud(1);
        int[] ahead = allForetold(x);
        x.leave(3);
        dueForetold("leave(3)", x, ahead);
        Sun.hours(x, 3);
        dueForetold("HOURS", x, ahead);
        x.leave(1);
        x.gift(0, 999);
        dueForetold("a gift", x, ahead);
        Sun.hours(x, 3);
        dueForetold("HOUR 5", x, ahead);
        due(x, 6 + 11 - (8 + 12), "worth", 0, 1, 0);
        x.shade(1, 0);
        due(x, 18 + 11 - 8, "worth", 0, 1, 0);
        x.shade(1, 1);
        x.sunset();
        x.cloud(1);
        dueForetold("a sunset", x, ahead);
    }

    private static void worth() {
        says(18, "By told HOURS: WORTH of a GUEST (what = 0), PAY (1), SHARE (2).");
        LastSun x = Scenes.after(Scenes.read("law 1 2;sun 3 5 9 6 4 2;" + Scenes.GUESTS));
        x.shade(3, 1);
        Sun.row(x, 0, 0, 0, 0, 6);
        due(x, 24 - 29 - 12, "worth", 0, 3, 0);
        due(x, 29 + 12, "worth", 0, 3, 1);
        due(x, 29, "worth", 0, 3, 2);
        due(x, 0, "worth", 0, 0, 0);
        due(x, 0, "worth", 0, 0, 1);
        due(x, 0, "worth", 0, 0, 2);
        says(18, "Refused as told.");
        refusedByRow("worth", 3, 2);
        for (int guest : NO_GUEST) {
            refusedByOthers("worth", guest, 0);
        }
        for (int what : NOT_TO_2) {
            refusedByOthers("worth", 0, what);
        }
    }

    private static void best() {
        says(0, "BEST of a GUEST: in how many HOURS it is there, so that its WORTH is greatest, others as told, "
            + "of several the least.");
        for (int own = 0; own <= 6; own++) {
            LastSun x = Scenes.after(Scenes.read(TWO_BESTS));
            Sun.row(x, 0, own);
            due(x, 2, "best", 0, 0);
        }
        int[][] byBurn = {{1, 1}, {2, 2}, {5, 5}, {6, 6}};
        for (int[] burn : byBurn) {
            LastSun x = Scenes.after(Scenes.read("law 0 0;sun 1 1 1 1 1 1;guest lone 3 0 " + burn[0] + ";"));
            Sun.row(x, 0, 3);
            due(x, burn[1], "best", 0, 0);
        }
        LastSun never = Scenes.after(Scenes.read("law 0 0;sun 3 3 3 3 3 3;guest lone 3 0 6;"));
        Sun.row(never, 0, 6);
        due(never, 0, "best", 0, 0);
        LastSun pair = Scenes.after(Scenes.read(PAIR));
        int[] bests = {0, 1, 1, 2, 3, 4, 5};
        for (int other = 0; other <= 6; other++) {
            Sun.row(pair, 0, 6, other);
            due(pair, bests[other], "best", 0, 0);
        }
        int[] byShade = {6, 6, 6, 0, 0};
        for (int shade = 0; shade < byShade.length; shade++) {
            LastSun x = Scenes.after(Scenes.read("law 0 " + shade + ";sun 1 1 1 1 1 1;guest lone 8 0 1;"));
            x.shade(0, 1);
            Sun.row(x, 0, 3);
            due(x, byShade[shade], "best", 0, 0);
        }
        says(19, "BEST.");
        due(pair, 5, "best", 0, 0);
        says(19, "Refused as told.");
        refusedByRow("best", 0);
        for (int guest : NO_GUEST) {
            refusedByOthers("best", guest);
        }
    }

    private static void rounds() {
        says(20, "TURNS: rounds (guest = -1), what one has then; NONE.");
        LastSun x = Scenes.after(Scenes.read(TWO_BESTS));
        for (int own = 0; own <= 6; own++) {
            Sun.row(x, 0, own);
            due(x, own == 2 ? 1 : 2, "rounds", 0, -1);
            due(x, 2, "rounds", 0, 0);
        }
        LastSun y = Scenes.after(Scenes.read(PAIR));
        Sun.row(y, 0, 6, 6);
        due(y, 4, "rounds", 0, -1);
        due(y, 1, "rounds", 0, 0);
        due(y, 1, "rounds", 0, 1);
        LastSun z = Scenes.after(Scenes.read(RESTLESS));
        Sun.row(z, 0, 0, 0);
        due(z, NONE, "rounds", 0, -1);
        due(z, 0, "status");
        due(z, 4, "rounds", 0, 0);
        due(z, 3, "rounds", 0, 1);
        says(20, "Refused as told.");
        refusedByRow("rounds", 3);
        for (int guest : NO_GUEST_NOR_ALL) {
            refusedByOthers("rounds", guest);
        }
    }

    private static void roundsAtMost() {
        says(0, "TURNS from told HOURS: GUESTS 0 on take up their BEST one after another, round by round, till in a round "
            + "nobody takes up another one than it had: how many rounds (that one, too; 20 at most; NONE: more); "
            + "what one has then (behind 20: so far).");
        dueTurns(1, new int[] {6, 6, 6, 6}, 6, 6, 6, 6);
        dueTurns(2, new int[] {6, 5, 6, 6}, 6, 6, 6, 6);
        dueTurns(19, new int[] {2, 2, 2, 2}, 6, 6, 6, 6);
        dueTurns(20, new int[] {2, 0, 2, 2}, 6, 6, 6, 6);
        dueTurns(NONE, new int[] {2, 0, 0, 2}, 6, 6, 6, 6);
        dueTurns(NONE, new int[] {5, 2, 2, 0}, 6, 5, 6, 6);
    }

    private static void dueTurns(int rounds, int[] from, int... then) {
        LastSun x = Scenes.after(Scenes.read(SLOW));
        Sun.row(x, 0, from);
        Sun.due("rounds from " + Arrays.toString(from), x.rounds(0, -1), rounds);
        for (int g = 0; g < 4; g++) {
            Sun.due("hours of " + g + " then, from " + Arrays.toString(from), x.rounds(0, g), then[g]);
        }
    }

    private static void rests() {
        says(0, "RESTS: rows of HOURS by which nobody's WORTH were more by another number of its own: how many; "
            + "of these the first by GUESTS; NONE.");
        LastSun x = Scenes.after(Scenes.read(TWO_BESTS));
        due(x, 2, "rests", -1);
        due(x, 2, "rests", 0);
        LastSun y = Scenes.after(Scenes.read("law 0 0;sun 3 3 3 3 3 3;guest lone 3 0 6;"));
        due(y, 7, "rests", -1);
        due(y, 0, "rests", 0);
        LastSun z = Scenes.after(Scenes.read("law 0 0;sun 0 0 0 0 0 0;" + "guest lone 0 0 6;".repeat(4)));
        due(z, 7 * 7 * 7 * 7, "rests", -1);
        due(z, 0, "rests", 3);
        String firstPays = "law 2 0;sun 1 1 1 1 1 1;guest lone 9 0 2;guest lone 0 0 6;guest lone 9 0 6;";
        LastSun w = Scenes.after(Scenes.read(firstPays));
        due(w, 3, "rests", -1);
        due(w, 2, "rests", 0);
        due(w, 0, "rests", 1);
        due(w, 6, "rests", 2);
        says(21, "RESTS: how many (k = -1), HOURS of GUEST k by the first; NONE.");
        Scenes.Scene restless = Scenes.read(RESTLESS);
        answers(restless, 0, "rests", -1);
        answers(restless, NONE, "rests", 0);
        answers(restless, NONE, "rests", 1);
        answers(Scenes.read("law 0 0;sun 1 1 1 1 1 1;"), 1, "rests", -1);
        says(21, "BAD; STATE: no BEACH (ahead of BAD).");
        for (int k : NO_GUEST_NOR_ALL) {
            refused(RICH, BAD, "rests", k);
            refused(NO_BEACH, STATE, "rests", k);
        }
        refused(restless, BAD, "rests", 2);
        refused(Scenes.read("law 0 0;sun 1 1 1 1 1 1;"), BAD, "rests", 0);
        refused(NO_BEACH, STATE, "rests", -1);
        refused(NO_BEACH, STATE, "rests", 0);
    }

    private static void duePact(String text, int[] hours, int together, int holds) {
        LastSun x = Scenes.after(Scenes.read(text));
        Sun.row(x, 0, hours);
        for (int what = 0; what <= 1; what++) {
            due(x, what == 0 ? together : holds, "pact", 0, 0, 1, what);
            due(x, what == 0 ? together : holds, "pact", 0, 1, 0, what);
            due(x, 0, "status");
        }
    }

    private static void pact() {
        says(0, "PACT of two unlike GUESTS: the least number of HOURS such that, if both are there just so long, "
            + "others as told, each of both has more WORTH than as told; NONE;");
        String dear = "law 0 0;sun 9 9 9 9 9 9;guest lone 3 0 6;guest lone 3 0 6;";
        duePact(dear, new int[] {1, 1}, 0, 1);
        duePact(dear, new int[] {0, 0}, NONE, NONE);
        String late = "law 0 0;sun 6 6 6 6 6 0;guest lone 3 0 6;guest lone 3 0 6;";
        duePact(late, new int[] {0, 0}, 6, 0);
        duePact(late, new int[] {5, 5}, 6, 0);
        duePact(late, new int[] {6, 6}, NONE, NONE);
        duePact(PAIR, new int[] {0, 0}, 1, 1);
        duePact(PAIR, new int[] {1, 1}, 2, 0);
        duePact(PAIR, new int[] {5, 5}, 6, 0);
        duePact(PAIR, new int[] {6, 6}, NONE, NONE);
        duePact(PAIR, new int[] {5, 6}, NONE, NONE);
        duePact(PAIR, new int[] {0, 1}, 1, 1);
        String third = PAIR + "guest lone 3 0 6;";
        duePact(third, new int[] {0, 0, 6}, 1, 0);
        duePact(third, new int[] {5, 5, 6}, NONE, NONE);
        duePact(third, new int[] {5, 5, 5}, 3, 0);
        says(22, "PACT: how many HOURS (what = 0), whether it HOLDS (1: 1, 0); NONE.");
        duePact(PAIR, new int[] {0, 0}, 1, 1);
        says(22, "Refused as told (BAD: GUESTS, alike, too).");
        refusedByRow("pact", 2, 3, 1);
        for (int guest : NO_GUEST) {
            refusedByOthers("pact", guest, 1, 0);
            refusedByOthers("pact", 0, guest, 0);
        }
        for (int guest = 0; guest < 4; guest++) {
            refusedByOthers("pact", guest, guest, 0);
        }
        for (int what : NOT_TO_1) {
            refusedByOthers("pact", 0, 3, what);
        }
    }

    /** A PACT of 1 for WORTHS of 1: another number alone gives less, as much, or more. */
    private static void pactHolds() {
        says(0, "it HOLDS, if then neither has more WORTH by another number alone.");
        duePact("law 2 0;sun 4 9 9 9 9 9;guest lone 3 0 6;guest lone 3 0 6;", new int[] {0, 0}, 1, 1);
        duePact("law 2 0;sun 4 3 9 9 9 9;guest lone 3 0 6;guest lone 3 0 6;", new int[] {0, 0}, 1, 1);
        duePact("law 2 0;sun 4 2 9 9 9 9;guest lone 3 0 6;guest lone 3 0 6;", new int[] {0, 0}, 1, 0);
        duePact("law 2 0;sun 4 3 9 9 9 9;guest lone 3 0 6;guest lone 4 0 6;", new int[] {0, 0}, 1, 0);
        duePact("law 2 0;sun 4 3 9 9 9 9;guest lone 4 0 6;guest lone 3 0 6;", new int[] {0, 0}, 1, 0);
    }

    private static void dueAlone(Scenes.Scene scene, int c, int above, int below) {
        quiet(scene, above, "", "alone", 0, c, 0);
        quiet(scene, below, "", "alone", 0, c, 1);
    }

    private static void alone() {
        says(0, "but fractions, told as two numbers in lowest terms (0 is 0 by 1).");
        Scenes.Scene cloudyOnly = Scenes.read("law 2 0;sun 30 30 30 30 30 30;guest lone 16 0 6;guest aunt 9 0 6;");
        dueAlone(cloudyOnly, 0, 0, 1);
        dueAlone(cloudyOnly, 1, 111111, 1000000);
        dueAlone(cloudyOnly, 2, 3906, 15625);
        dueAlone(cloudyOnly, 5, 63, 64);
        dueAlone(cloudyOnly, 9, 4217031, 1000000);
        dueAlone(cloudyOnly, 10, 6, 1);
        dueAlone(Scenes.read("law 2 0;sun 30 30 30 30 30 30;guest lone 15 0 6;"), 10, 0, 1);
        dueAlone(Scenes.read("law 2 0;sun 30 30 30 30 30 30;guest lone 15 0 6;"), 7, 0, 1);
        dueAlone(Scenes.read("law 2 0;sun 0 0 0 0 0 0;guest child 20 0 6;"), 4, 180, 1);
        says(23, "ALONE by c (0 to 10): above (what = 0), below (1).");
        dueAlone(cloudyOnly, 0, 0, 1);
        dueAlone(cloudyOnly, 10, 6, 1);
        says(23, "BAD; STATE: no BEACH (ahead of BAD).");
        for (int c : new int[] {MIN, -1, 11, MAX}) {
            refused(RICH, BAD, "alone", 0, c, 0);
            refused(NO_BEACH, STATE, "alone", 0, c, 0);
        }
        for (int guest : NO_GUEST) {
            refused(RICH, BAD, "alone", guest, 5, 0);
            refused(NO_BEACH, STATE, "alone", guest, 5, 0);
        }
        for (int what : NOT_TO_1) {
            refused(RICH, BAD, "alone", 3, 5, what);
            refused(NO_BEACH, STATE, "alone", 3, 5, what);
        }
        refused(NO_BEACH, STATE, "alone", 0, 5, 0);
    }

    private static void aloneMeans() {
        says(0, "ALONE: a GUEST alone, nobody else being there: each HOUR is cloudy by c of 10 (told clouds aside): "
            + "ahead of each it sees whether it is, then it stays, or goes home for good, so that its WORTH is greatest "
            + "in the mean: that, a fraction.");
        Scenes.Scene told = x -> {
            Scenes.read("law 2 0;sun 30 30 30 30 30 30;guest aunt 16 0 6;guest aunt 9 0 6;").play(x);
            for (int h = 0; h < 6; h++) {
                x.cloud(h);
            }
        };
        dueAlone(told, 0, 0, 1);
        dueAlone(told, 1, 111111, 1000000);
        Scenes.Scene later = Scenes.read("law 0 0;sun 10 10 0 30 30 30;guest clan 6 0 6;");
        dueAlone(later, 0, 0, 1);
        dueAlone(later, 10, 1 + 1 + 6, 1);
        dueAlone(later, 5, 3, 1);
        Scenes.Scene burnt = Scenes.read("law 1 0;sun 0 0 0 0 0 0;guest lone 6 0 2;");
        dueAlone(burnt, 3, 12, 1);
        Scenes.Scene shaded = x -> {
            Scenes.read("law 1 2;sun 1 1 1 1 1 1;guest lone 7 0 2;").play(x);
            x.shade(0, 1);
        };
        dueAlone(shaded, 0, 0, 1);
        dueAlone(shaded, 10, 6, 1);
    }

    private static void explained() {
        says(0, "EXPLAINED: a row tells PAY of each GUEST: rows of HOURS by which each PAYS that: how many; "
            + "in how many a GUEST was there in all of them; NONE (there is none, too).");
        Scenes.Scene scene = Scenes.read("law 0 0;sun 0 5 5 0 0 0;guest lone 1 0 1;");
        int[] pays = {0, 1, 4, 5, 6, 9, 10, 11, MAX};
        int[] many = {2, 0, 0, 1, 0, 0, 4, 0, 0};
        int[] hours = {NONE, NONE, NONE, 2, NONE, NONE, NONE, NONE, NONE};
        for (int i = 0; i < pays.length; i++) {
            LastSun x = Scenes.after(scene);
            Sun.row(x, 0, pays[i]);
            due(x, many[i], "explained", 0, -1);
            due(x, hours[i], "explained", 0, 0);
            due(x, 0, "status");
        }
        LastSun y = Scenes.after(Scenes.read("law 0 3;sun 2 2 2 2 2 2;guest lone 1 0 1;guest lone 1 0 1;"));
        Sun.row(y, 0, 0, 12);
        due(y, 6, "explained", 0, -1);
        due(y, NONE, "explained", 0, 0);
        due(y, 6, "explained", 0, 1);
        Sun.row(y, 0, 6, 6);
        due(y, 1, "explained", 0, -1);
        due(y, 6, "explained", 0, 0);
        LastSun z = Scenes.after(Scenes.read("law 0 0;sun 0 0 0 0 0 0;" + "guest lone 0 0 6;".repeat(4)));
        Sun.row(z, 0, 0, 0, 0, 0);
        due(z, 7 * 7 * 7 * 7, "explained", 0, -1);
        due(z, NONE, "explained", 0, 3);
        explainedRefused();
    }

    private static void explainedRefused() {
        says(24, "EXPLAINED: how many (guest = -1), HOURS of a GUEST; NONE.");
        LastSun x = Scenes.after(Scenes.read("law 2 0;sun 1 1 1 1 1 1;"));
        x.row(0, 0, 0);
        due(x, 1, "explained", 0, -1);
        due(x, BAD, "explained", 0, 0);
        says(24, "Refused as told.");
        refusedByRow("explained", 3);
        for (int guest : NO_GUEST_NOR_ALL) {
            refusedByOthers("explained", guest);
        }
    }

    private static void dueLaws(String text, int fairest, int laws, int... hours) {
        LastSun x = Scenes.after(Scenes.read(text));
        Sun.row(x, 0, hours);
        due(x, fairest, "laws", 0, 0);
        due(x, laws, "laws", 0, 1);
    }

    private static String two(int price, int a, int b) {
        String six = (" " + price).repeat(6);
        return "law 0 0;sun" + six + ";guest lone " + a + " 0 6;guest lone " + b + " 0 6;";
    }

    private static void fairest() {
        says(0, "FAIREST by told HOURS: the SPLIT by which the greatest WORTH less the least one is least, "
            + "of several the least (without GUESTS 0).");
        dueLaws("law 2 0;sun 9 9 9 9 9 9;", 0, 7);
        dueLaws("law 2 0;sun 9 9 9 9 9 9;guest lone 1 0 1;", 0, 0, 1);
        dueLaws(two(4, 2, 6), 0, 0, 0, 1);
        dueLaws(two(5, 5, 3), 1, 0, 1, 2);
        dueLaws(two(8, 6, 7), 2, 0, 1, 2);
        says(25, "FAIREST (what = 0), LAWS (1) by told HOURS.");
        dueLaws(two(4, 3, 3), 1, 0, 2, 1);
        says(25, "Refused as told.");
        refusedByRow("laws", 1);
        for (int what : NOT_TO_1) {
            refusedByOthers("laws", what);
        }
    }

    private static void laws() {
        says(0, "Sets are bits.");
        dueLaws(two(2, 3, 3), 0, 1, 3, 3);
        dueLaws(two(5, 4, 5), 0, 4, 3, 3);
        dueLaws(two(4, 3, 3), 0, 7, 0, 0);
        says(0, "LAWS: SPLITS (bits) by which told HOURS are such that nobody's WORTH were more by another number of its own.");
        LastSun clans = Scenes.after(Scenes.read("law 0 0;sun 10 10 10 10 10 10;guest clan 6 0 6;guest clan 7 0 6;"));
        Sun.row(clans, 0, 1, 1);
        due(clans, 2, "laws", 0, 1);
        dueLaws(two(7, 7, 7), 0, 5, 2, 2);
        dueLaws(two(4, 3, 3), 0, 6, 2, 2);
        LastSun tie = Scenes.after(Scenes.read(TWO_BESTS));
        for (int n = 0; n <= 6; n++) {
            Sun.row(tie, 0, n);
            due(tie, n == 2 || n == 4 ? 7 : 0, "laws", 0, 1);
        }
    }

    private static void dueOwner(String text, int price, int sum, int... hours) {
        LastSun x = Scenes.after(Scenes.read(text));
        Sun.row(x, 0, hours);
        due(x, price, "owner", 0, 0);
        due(x, sum, "owner", 0, 1);
        x.cloud(0);
        x.cloud(5);
        due(x, price, "owner", 0, 0);
        due(x, sum, "owner", 0, 1);
    }

    private static void owner() {
        says(0, "OWNER: of prices 0 to 30, one for all HOURS, no clouds, that by which SUM is greatest, "
            + "when TURNS from told HOURS are over (20 rounds at most), of several the least: the price; SUM.");
        String ones = "sun 1 1 1 1 1 1;";
        dueOwner("law 0 0;" + ones + "guest child 20 0 3;", 30, 90, 0);
        dueOwner("law 0 0;" + ones + "guest child 15 0 3;", 29, 87, 0);
        dueOwner("law 0 0;" + ones + "guest lone 1 0 6;", 0, 0, 6);
        dueOwner("law 0 0;" + ones + "guest lone 2 0 6;", 1, 6, 0);
        dueOwner("law 0 0;" + ones + "guest lone 20 0 6;", 19, 114, 0);
        dueOwner("law 0 0;" + ones, 0, 0);
        dueOwner("law 0 0;" + ones + "guest lone 2 0 6;guest lone 2 0 6;", 1, 4, 6, 0);
        dueOwner("law 2 0;" + ones + "guest lone 4 0 4;guest lone 3 0 4;", 3, 12, 4, 0);
        dueOwner("law 0 0;" + ones + "guest lone 1 0 2;guest lone 9 0 6;guest lone 1 0 5;", 8, 32, 4, 3, 0);
        says(26, "OWNER: the price (what = 0), SUM (1).");
        dueOwner("law 2 2;sun 3 5 9 6 4 2;guest lone 5 0 3;", 4, 12, 0);
        says(26, "Refused as told.");
        refusedByRow("owner", 0);
        for (int what : NOT_TO_1) {
            refusedByOthers("owner", what);
        }
    }

    private static void owes() {
        says(0, "OWES: DEBT of a GUEST when so many sunsets more have made it more, all else aside.");
        LastSun x = Scenes.after(Scenes.read("law 0 0;sun 30 30 30 8 1 1;guest lone 0 0 6;guest lone 0 200 6;"));
        x.leave(1);
        Sun.hours(x, 6);
        due(x, 100, "sunset");
        int[] debts = {100, 110, 121, 133, 146, 160};
        for (int n = 0; n < debts.length; n++) {
            due(x, debts[n], "owes", 0, n);
            due(x, 0, "owes", 1, n);
        }
        due(x, 9999, "owes", 0, 60);
        x.gift(0, 91);
        due(x, 9, "owes", 0, 60);
        says(27, "OWES behind n sunsets (0 to 60).");
        quiet(RICH, 8, "", "owes", 1, 0);
        quiet(RICH, 8, "", "owes", 1, 60);
        says(27, "BAD.");
        for (int n : new int[] {MIN, -1, 61, MAX}) {
            refused(RICH, BAD, "owes", 1, n);
        }
        for (int guest : NO_GUEST) {
            refused(RICH, BAD, "owes", guest, 1);
        }
        refused(NO_BEACH, BAD, "owes", 0, 1);
    }

    private static void image() {
        says(28, "An IMAGE (0, 1) is kept of the BEACH: 1.");
        for (int k = 0; k <= 1; k++) {
            LastSun x = answers(RICH, 1, "image", k);
            due(x, 16, "count", 4);
            due(x, 2, "count", 2);
            x.hour();
            x.leave(3);
            due(x, 1, "restore", k);
            due(x, 2, "count", 2);
            due(x, 1, "guest", 3, 3);
            due(x, 1, "restore", 1 - k);
            due(x, k == 0 ? 1 : 0, "count", 2);
        }
        answers(Scenes.read("law 0 0;sun 1 1 1 1 1 1;"), 1, "image", 0);
        says(28, "BAD; STATE: no BEACH.");
        for (int k : NOT_TO_1) {
            refused(RICH, BAD, "image", k);
            refused(NO_BEACH, BAD, "image", k);
        }
        refused(NO_BEACH, STATE, "image", 0);
        refused(NO_BEACH, STATE, "image", 1);
    }

    private static void restore() {
        says(29, "The BEACH is as an IMAGE kept it (no ACT can be undone then): 1.");
        LastSun x = answers(RICH, 1, "restore", 1);
        int[] counts = {5, 4, 1, 1, 0, 3, 10, Scenes.UNREAD.length()};
        for (int what = 0; what < 8; what++) {
            due(x, counts[what], "count", what);
        }
        due(x, STATE, "undo");
        due(x, 3, "status");
        due(x, 12, "trace", 0);
        x.hour();
        due(x, 0, "undo");
        due(x, 1, "restore", 0);
        due(x, 4, "count", 5);
        due(x, 0, "count", 2);
        Sun.hours(x, 5);
        due(x, 5, "leave", 0);
        due(x, 5, "leave", 1);
        due(x, 1, "restore", 1);
        due(x, 3, "count", 5);
        due(x, 1, "guest", 0, 4);
        due(x, 1, "guest", 1, 3);
        says(29, "BAD; STATE: none was kept.");
        for (int k : NOT_TO_1) {
            refused(RICH, BAD, "restore", k);
            refused(NO_BEACH, BAD, "restore", k);
        }
        refused(NO_BEACH, STATE, "restore", 0);
        refused(Scenes.MORNING, STATE, "restore", 1);
        for (int k = 0; k <= 1; k++) {
            int kept = k;
            Scenes.Scene one = y -> {
                Scenes.MORNING.play(y);
                y.image(kept);
                y.hour();
            };
            answers(one, 1, "restore", k);
            refused(one, STATE, "restore", 1 - k);
        }
    }
}
