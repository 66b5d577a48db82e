/** Promises 18 to 29: worth, best, rounds, rests, pact, alone, explained, laws, owner, owes, image, restore. */
public final class ForetoldTest {
    private static final String FREE = "law 0 0;sun 0 0 0 0 0 0;";
    private static final String ONE = "law 0 0;sun 1 1 1 1 1 1;guest lone 5 0 3;";
    private static final String PAIR = "law 0 0;sun 4 4 4 4 4 4;guest lone 3 0 6;guest lone 3 0 6;";
    private static final String RESTLESS = "law 0 0;sun 7 5 10 7 1 8;guest aunt 1 0 4;guest aunt 7 0 6;";
    private static final String FOUR = "sun 3 5 9 6 4 2;"
        + "guest lone 6 40 4;guest aunt 3 9 6;guest child 4 0 2;guest clan 8 90 5;";

    public static void main(String[] args) {
        refusals();
        order();
        joy();
        joyInCompany();
        shares();
        pay();
        asideFromThisDay();
        best();
        rounds();
        rests();
        pact();
        alone();
        explained();
        laws();
        owner();
        owes();
        images();
        withoutGuests();
        Sun.end("ForetoldTest");
    }

    /** Each call by a ROW, told by a number from 0 to 6, with its other numbers as they should be. */
    private static int byRow(LastSun x, int call, int row) {
        switch (call) {
            case 0: return x.worth(row, 0, 0);
            case 1: return x.best(row, 0);
            case 2: return x.rounds(row, -1);
            case 3: return x.pact(row, 0, 1, 0);
            case 4: return x.explained(row, -1);
            case 5: return x.laws(row, 1);
            default: return x.owner(row, 0);
        }
    }

    private static void refusals() {
        for (int call = 0; call <= 6; call++) {
            String name = "call " + call + " by row ";
            LastSun x = new LastSun();
            Sun.due(name + "9, no beach", byRow(x, call, 9), Sun.STATE);
            Sun.feed(x, PAIR);
            x.beach();
            Sun.due(name + "-1", byRow(x, call, -1), Sun.BAD);
            Sun.due(name + "8", byRow(x, call, 8), Sun.BAD);
            Sun.due("status() stays", x.status(), 0);
            Sun.due(name + "0, missing", byRow(x, call, 0), Sun.NULL);
            Sun.due("status() of NULL", x.status(), 1);
            Sun.row(x, 0, 9);
            Sun.due(name + "0, too short, PLACE ahead of ITEMS", byRow(x, call, 0), Sun.PLACE);
            Sun.due("status() of PLACE", x.status(), 2);
            x.row(0, 0, 2);
            x.set(0, 1, -1);
            Sun.due(name + "0, an item below 0", byRow(x, call, 0), Sun.BAD);
            x.set(0, 1, 7);
            int by7 = byRow(x, call, 0);
            Sun.due(name + "0, an item of 7", call == 4 ? Sun.BAD : by7, Sun.BAD);
            x.set(3, 0, 0);
            byRow(x, call, 7);
            Sun.due("status() of NULL", x.status(), 1);
            x.set(0, 1, -1);
            byRow(x, call, 0);
            Sun.due("status() is that of a good set", x.status(), 0);
            Sun.row(x, 0, 0, 6, 99, -5);
            x.set(3, 0, 0);
            Sun.due(name + "0 with more items", byRow(x, call, 0) > -1000001 ? 1 : 0, 1);
            Sun.due("status() of a good one", x.status(), 0);
        }
    }

    private static void order() {
        LastSun x = new LastSun();
        Sun.due("STATE ahead of BAD, worth", x.worth(9, 9, 9), Sun.STATE);
        Sun.due("STATE ahead of BAD, rests", x.rests(9), Sun.STATE);
        Sun.due("STATE ahead of BAD, pact", x.pact(9, 0, 0, 9), Sun.STATE);
        Sun.due("STATE ahead of BAD, alone", x.alone(9, 99, 9), Sun.STATE);
        Sun.due("STATE ahead of BAD, laws", x.laws(9, 9), Sun.STATE);
        Sun.due("STATE ahead of BAD, owner", x.owner(9, 9), Sun.STATE);
        Sun.feed(x, PAIR);
        x.beach();
        Sun.due("worth of no guest, ahead of NULL", x.worth(0, 2, 0), Sun.BAD);
        Sun.due("worth of -1", x.worth(0, -1, 0), Sun.BAD);
        Sun.due("worth 3", x.worth(0, 0, 3), Sun.BAD);
        Sun.due("worth -1", x.worth(0, 0, -1), Sun.BAD);
        Sun.due("best of no guest", x.best(0, 2), Sun.BAD);
        Sun.due("best of -1", x.best(0, -1), Sun.BAD);
        Sun.due("rounds of -2", x.rounds(0, -2), Sun.BAD);
        Sun.due("rounds of 2", x.rounds(0, 2), Sun.BAD);
        Sun.due("rests of -2", x.rests(-2), Sun.BAD);
        Sun.due("rests of 2", x.rests(2), Sun.BAD);
        Sun.due("pact of one", x.pact(0, 1, 1, 0), Sun.BAD);
        Sun.due("pact with 2", x.pact(0, 1, 2, 0), Sun.BAD);
        Sun.due("pact of -1", x.pact(0, -1, 1, 0), Sun.BAD);
        Sun.due("pact, what 2", x.pact(0, 0, 1, 2), Sun.BAD);
        Sun.due("alone of 2", x.alone(2, 5, 0), Sun.BAD);
        Sun.due("alone by 11", x.alone(0, 11, 0), Sun.BAD);
        Sun.due("alone by -1", x.alone(0, -1, 0), Sun.BAD);
        Sun.due("alone, what 2", x.alone(0, 5, 2), Sun.BAD);
        Sun.due("explained of -2", x.explained(0, -2), Sun.BAD);
        Sun.due("explained of 2", x.explained(0, 2), Sun.BAD);
        Sun.due("laws, what 2", x.laws(0, 2), Sun.BAD);
        Sun.due("laws, what -1", x.laws(0, -1), Sun.BAD);
        Sun.due("owner, what 2", x.owner(0, 2), Sun.BAD);
        Sun.due("owes of 2", x.owes(2, 0), Sun.BAD);
        Sun.due("owes behind -1", x.owes(0, -1), Sun.BAD);
        Sun.due("owes behind 61", x.owes(0, 61), Sun.BAD);
    }

    /** WORTH by 0 to 6 HOURS of GUEST 0, others as the ROW tells. */
    private static void dueWorths(String of, LastSun x, int... worths) {
        for (int n = 0; n <= 6; n++) {
            x.set(0, 0, n);
            Sun.due("worth of " + of + " by " + n, x.worth(0, 0, 0), worths[n]);
        }
    }

    private static void joy() {
        LastSun x = Sun.on(FREE + "guest lone 7 0 2;", 1);
        Sun.row(x, 0, 0);
        dueWorths("lone", x, 0, 7, 14, 7, 0, -7, -14);
        x.shade(0, 1);
        dueWorths("lone under an umbrella", x, 0, 3, 6, 9, 12, 15, 18);
        LastSun y = Sun.on(FREE + "guest child 7 0 2;", 1);
        Sun.row(y, 0, 0);
        dueWorths("child", y, 0, 14, 28, 14, 7, 0, -7);
        y.shade(0, 1);
        dueWorths("child under an umbrella", y, 0, 6, 12, 18, 21, 24, 27);
        LastSun z = Sun.on(FREE + "guest lone 7 0 6;", 1);
        Sun.row(z, 0, 0);
        dueWorths("lone that never burns", z, 0, 7, 14, 21, 28, 35, 42);
    }

    private static void joyInCompany() {
        String others = "guest lone 1 0 1;guest clan 1 0 1;";
        LastSun x = Sun.on(FREE + "guest aunt 7 0 3;" + others, 3);
        Sun.row(x, 0, 0, 2, 4);
        dueWorths("aunt", x, 0, 9, 18, 26, 20, 13, 6);
        x.shade(0, 1);
        dueWorths("aunt under an umbrella", x, 0, 5, 10, 14, 18, 21, 24);
        LastSun y = Sun.on(FREE + "guest band 7 0 3;" + others, 3);
        Sun.row(y, 0, 0, 2, 4);
        dueWorths("band", y, 0, 5, 10, 16, 8, 1, -6);
        LastSun z = Sun.on(FREE + "guest clan 7 0 3;" + others, 3);
        Sun.row(z, 0, 0, 2, 4);
        dueWorths("clan", z, 0, 5, 10, 16, 8, 1, -6);
        LastSun w = Sun.on(FREE + "guest child 1 0 6;" + others, 3);
        Sun.row(w, 0, 0, 6, 6);
        dueWorths("child, whoever else", w, 0, 2, 4, 6, 7, 8, 9);
    }

    private static void dueShares(int split, int[] hours, int... shares) {
        LastSun x = Sun.on("law " + split + " 0;" + FOUR, 4);
        Sun.row(x, 0, hours);
        for (int g = 0; g < 4; g++) {
            Sun.due("share of " + g + " by split " + split, x.worth(0, g, 2), shares[g]);
            Sun.due("pay of " + g + " by split " + split, x.worth(0, g, 1), shares[g]);
        }
    }

    private static void shares() {
        for (int split = 0; split < 3; split++) {
            dueShares(split, new int[] {0, 0, 0, 0}, 0, 0, 0, 0);
            dueShares(split, new int[] {0, 0, 3, 0}, 0, 0, 17, 0);
        }
        dueShares(0, new int[] {3, 6, 2, 6}, 0, 10, 0, 19);
        dueShares(0, new int[] {6, 6, 6, 6}, 6, 6, 6, 11);
        dueShares(0, new int[] {2, 1, 2, 1}, 4, 0, 4, 0);
        dueShares(0, new int[] {3, 3, 1, 3}, 5, 4, 0, 8);
        dueShares(1, new int[] {1, 2, 4, 4}, 1, 3, 7, 12);
        dueShares(1, new int[] {0, 0, 1, 1}, 0, 0, 1, 2);
        dueShares(1, new int[] {1, 1, 1, 1}, 2, 0, 0, 1);
        dueShares(2, new int[] {2, 1, 2, 3}, 1 + 2, 1, 1 + 1, 2 + 9);
        dueShares(2, new int[] {6, 6, 6, 6}, 1 + 1 + 2 + 2 + 1 + 1, 1 + 1 + 2 + 1 + 1 + 1,
            1 + 1 + 2 + 1 + 1, 2 + 3 + 2 + 1);
    }

    private static void pay() {
        LastSun x = Sun.on("law 0 3;" + FOUR, 4);
        x.shade(1, 1);
        Sun.row(x, 0, 0, 5, 0, 6);
        Sun.due("share of one who left early", x.worth(0, 1, 2), 0);
        Sun.due("pay under an umbrella", x.worth(0, 1, 1), 15);
        Sun.due("worth", x.worth(0, 1, 0), 5 * (1 + 1) - 15);
        Sun.due("pay of another", x.worth(0, 3, 1), 29);
        x.cloud(2);
        Sun.due("pay by cloud", x.worth(0, 3, 1), 24);
        Sun.row(x, 0, 0, 0, 0, 0);
        Sun.due("pay of one who was not there", x.worth(0, 1, 1), 0);
    }

    /** A DAY from HOUR 0 on, whoever left, PURSES aside. */
    private static void asideFromThisDay() {
        LastSun x = Sun.on("law 0 3;" + FOUR, 4);
        Sun.row(x, 0, 3, 6, 2, 6);
        x.cloud(1);
        int[] ahead = {x.worth(0, 1, 0), x.best(0, 3), x.rounds(0, -1), x.rests(-1), x.pact(0, 0, 1, 0), x.owner(0, 1)};
        Sun.hours(x, 3);
        x.leave(1);
        x.leave(3);
        x.gift(1, 900);
        Sun.due("worth", x.worth(0, 1, 0), ahead[0]);
        Sun.due("best", x.best(0, 3), ahead[1]);
        Sun.due("rounds", x.rounds(0, -1), ahead[2]);
        Sun.due("rests", x.rests(-1), ahead[3]);
        Sun.due("pact", x.pact(0, 0, 1, 0), ahead[4]);
        Sun.due("owner", x.owner(0, 1), ahead[5]);
        Sun.due("nothing changes: hours", x.count(2), 3);
        Sun.due("nothing changes: acts", x.count(4), 7);
        Sun.due("nothing changes: price", x.price(1), 2);
        Sun.due("nothing changes: there", x.count(5), 2);
        Sun.due("nothing changes: hours of 1", x.guest(1, 4), 3);
        Sun.hours(x, 3);
        Sun.due("nothing changes: sunset", x.sunset(), 26);
    }

    private static void best() {
        LastSun x = Sun.on(ONE, 1);
        Sun.row(x, 0, 6);
        Sun.due("best alone", x.best(0, 0), 3);
        LastSun y = Sun.on("law 0 0;sun 5 5 5 0 0 0;guest lone 5 0 6;", 1);
        Sun.row(y, 0, 0);
        Sun.due("best, the greatest", y.best(0, 0), 6);
        LastSun z = Sun.on("law 0 0;sun 5 5 5 5 5 5;guest lone 5 0 6;", 1);
        Sun.row(z, 0, 4);
        Sun.due("best of several, the least", z.best(0, 0), 0);
        LastSun w = Sun.on(PAIR, 2);
        Sun.row(w, 0, 6, 6);
        Sun.due("best where the other pays", w.best(0, 0), 5);
        Sun.row(w, 0, 6, 0);
        Sun.due("best where one pays alone", w.best(0, 0), 0);
    }

    private static void rounds() {
        LastSun x = Sun.on(ONE, 1);
        Sun.row(x, 0, 0);
        Sun.due("rounds, one to move", x.rounds(0, -1), 2);
        Sun.due("hours then", x.rounds(0, 0), 3);
        Sun.row(x, 0, 3);
        Sun.due("rounds, none to move", x.rounds(0, -1), 1);
        LastSun y = Sun.on(PAIR, 2);
        Sun.row(y, 0, 6, 6);
        Sun.due("rounds of a pair", y.rounds(0, -1), 4);
        Sun.due("0 at rest", y.rounds(0, 0), 1);
        Sun.due("1 at rest", y.rounds(0, 1), 1);
        LastSun z = Sun.on(RESTLESS, 2);
        Sun.row(z, 0, 0, 0);
        Sun.due("more than 20 rounds", z.rounds(0, -1), Sun.NONE);
        Sun.due("so far, 0", z.rounds(0, 0), 4);
        Sun.due("so far, 1", z.rounds(0, 1), 3);
        Sun.due("status() of NONE", z.status(), 0);
    }

    private static void rests() {
        LastSun x = Sun.on(ONE, 1);
        Sun.due("rests alone", x.rests(-1), 1);
        Sun.due("the first", x.rests(0), 3);
        LastSun y = Sun.on(PAIR, 2);
        Sun.due("rests of a pair", y.rests(-1), 2);
        Sun.due("the first, 0", y.rests(0), 0);
        Sun.due("the first, 1", y.rests(1), 0);
        LastSun z = Sun.on(RESTLESS, 2);
        Sun.due("no rest", z.rests(-1), 0);
        Sun.due("no rest, 0", z.rests(0), Sun.NONE);
        LastSun w = Sun.on("law 1 0;sun 11 6 9 8 10 5;guest aunt 1 0 4;guest band 6 0 6;guest child 6 0 6;", 3);
        Sun.due("eight rests", w.rests(-1), 8);
        Sun.due("the first by guests, 0", w.rests(0), 0);
        Sun.due("the first by guests, 1", w.rests(1), 3);
    }

    private static void pact() {
        LastSun x = Sun.on(PAIR, 2);
        Sun.row(x, 0, 0, 0);
        Sun.due("pact from 0", x.pact(0, 0, 1, 0), 1);
        Sun.due("it holds", x.pact(0, 0, 1, 1), 1);
        Sun.due("the other way round", x.pact(0, 1, 0, 0), 1);
        Sun.row(x, 0, 1, 1);
        Sun.due("pact from 1", x.pact(0, 0, 1, 0), 2);
        Sun.due("it does not hold", x.pact(0, 0, 1, 1), 0);
        Sun.row(x, 0, 6, 6);
        Sun.due("no pact", x.pact(0, 0, 1, 0), Sun.NONE);
        Sun.due("no pact that holds", x.pact(0, 0, 1, 1), Sun.NONE);
        Sun.row(x, 0, 5, 6);
        Sun.due("one has not more", x.pact(0, 0, 1, 0), Sun.NONE);
    }

    private static void dueAlone(LastSun x, int c, int above, int below) {
        Sun.due("alone by " + c + ", above", x.alone(0, c, 0), above);
        Sun.due("alone by " + c + ", below", x.alone(0, c, 1), below);
    }

    private static void alone() {
        LastSun x = Sun.on(ONE + "guest aunt 1 1 1;", 2);
        x.cloud(0);
        dueAlone(x, 0, 12, 1);
        dueAlone(x, 10, 15, 1);
        dueAlone(x, 5, 27, 2);
        dueAlone(x, 1, 123, 10);
        x.shade(0, 1);
        dueAlone(x, 0, 6, 1);
        dueAlone(x, 10, 12, 1);
        LastSun y = Sun.on("law 1 9;sun 9 9 9 9 9 9;guest clan 1 0 6;", 1);
        dueAlone(y, 10, 0, 1);
        dueAlone(y, 0, 0, 1);
        dueAlone(y, 3, 0, 1);
        seenAhead();
    }

    /** HOUR 0 is worth 0 in sun, 3 by cloud; HOUR 1 -1 or 2: stay in it by cloud alone; then go. */
    private static void seenAhead() {
        LastSun x = Sun.on("law 0 0;sun 6 7 30 30 30 30;guest lone 6 0 6;guest lone 6 0 1;", 2);
        dueAlone(x, 0, 0, 1);
        dueAlone(x, 10, 6, 1);
        dueAlone(x, 5, 3, 1);
        dueAlone(x, 2, 6, 5);
        x.shade(0, 1);
        dueAlone(x, 5, 0, 1);
        LastSun y = Sun.on("law 0 2;sun 6 0 0 0 0 0;guest child 8 0 1;", 1);
        dueAlone(y, 0, 10, 1);
        y.shade(0, 1);
        dueAlone(y, 0, 8 - 8 + 6 + 6 + 2 + 2 + 2, 1);
    }

    private static void explained() {
        LastSun x = Sun.on("law 0 0;sun 0 5 5 0 0 0;guest lone 1 0 1;", 1);
        Sun.row(x, 0, 0);
        Sun.due("two rows fit", x.explained(0, -1), 2);
        Sun.due("hours differ", x.explained(0, 0), Sun.NONE);
        Sun.row(x, 0, 5);
        Sun.due("one row fits", x.explained(0, -1), 1);
        Sun.due("its hours", x.explained(0, 0), 2);
        Sun.row(x, 0, 4);
        Sun.due("none fits", x.explained(0, -1), 0);
        Sun.due("no hours", x.explained(0, 0), Sun.NONE);
        Sun.row(x, 0, Integer.MAX_VALUE);
        Sun.due("none fits so much", x.explained(0, -1), 0);
        x.shade(0, 1);
        x.cloud(1);
        Sun.row(x, 0, 2);
        Sun.due("by cloud", x.explained(0, 0), 2);
        LastSun y = Sun.on("law 0 3;sun 2 2 2 2 2 2;guest lone 1 0 1;guest lone 1 0 1;", 2);
        Sun.row(y, 0, 0, 8);
        Sun.due("0 is there in up to 3", y.explained(0, -1), 4);
        Sun.due("0 in any", y.explained(0, 0), Sun.NONE);
        Sun.due("1 in all", y.explained(0, 1), 4);
        y.shade(0, 1);
        Sun.row(y, 0, 6, 8);
        Sun.due("0 pays for its umbrella", y.explained(0, -1), 1);
        Sun.due("0 in 2", y.explained(0, 0), 2);
    }

    private static void laws() {
        LastSun x = Sun.on(PAIR, 2);
        Sun.row(x, 0, 0, 0);
        Sun.due("all splits by 0 0", x.laws(0, 1), 7);
        Sun.due("fairest by 0 0", x.laws(0, 0), 0);
        Sun.row(x, 0, 1, 1);
        Sun.due("all splits by 1 1", x.laws(0, 1), 7);
        Sun.row(x, 0, 2, 2);
        Sun.due("splits by 2 2", x.laws(0, 1), 6);
        Sun.row(x, 0, 2, 1);
        Sun.due("splits by 2 1", x.laws(0, 1), 0);
        Sun.due("fairest of several, the least", x.laws(0, 0), 1);
        Sun.due("the law stays", x.worth(0, 0, 2), 8);
        LastSun y = Sun.on("law 2 0;" + FOUR, 4);
        Sun.row(y, 0, 3, 6, 2, 6);
        Sun.due("fairest", y.laws(0, 0), 2);
    }

    private static void owner() {
        LastSun x = Sun.on(ONE, 1);
        Sun.row(x, 0, 0);
        x.cloud(0);
        Sun.due("price", x.owner(0, 0), 4);
        Sun.due("sum", x.owner(0, 1), 12);
        Sun.due("prices stay", x.price(1), 1);
        LastSun y = Sun.on("law 0 0;sun 1 1 1 1 1 1;guest lone 0 0 3;", 1);
        Sun.row(y, 0, 6);
        Sun.due("price without joy", y.owner(0, 0), 0);
        Sun.due("sum without joy", y.owner(0, 1), 0);
        LastSun z = Sun.on("law 0 0;sun 0 0 0 0 0 0;guest child 20 0 6;", 1);
        Sun.row(z, 0, 0);
        Sun.due("price: 6 hours by 19 are more than 3 by 30", z.owner(0, 0), 19);
        Sun.due("sum", z.owner(0, 1), 19 * 6);
        LastSun w = Sun.on("law 0 2;" + FOUR, 4);
        Sun.row(w, 0, 3, 6, 2, 6);
        Sun.due("price by four", w.owner(0, 0), 5);
        Sun.due("sum by four", w.owner(0, 1), 20);
    }

    private static void owes() {
        LastSun x = Sun.on("law 0 0;sun 10 10 10 10 10 10;guest lone 1 0 1;", 1);
        Sun.due("owes nothing", x.owes(0, 60), 0);
        Sun.hours(x, 6);
        x.sunset();
        Sun.due("owes behind 0", x.owes(0, 0), 60);
        Sun.due("owes behind 1", x.owes(0, 1), 66);
        Sun.due("owes behind 2", x.owes(0, 2), 72);
        Sun.due("owes behind 3", x.owes(0, 3), 79);
        Sun.due("owes behind 60, at most", x.owes(0, 60), 9999);
        Sun.due("debt stays", x.guest(0, 6), 60);
        x.gift(0, 51);
        Sun.due("a small debt does not grow", x.owes(0, 60), 9);
        Sun.due("without beach", new LastSun().owes(0, 1), Sun.BAD);
    }

    private static void images() {
        LastSun x = new LastSun();
        Sun.due("image(-1)", x.image(-1), Sun.BAD);
        Sun.due("image(2), BAD ahead of STATE", x.image(2), Sun.BAD);
        Sun.due("image(1)", x.image(1), Sun.STATE);
        Sun.due("restore(-1)", x.restore(-1), Sun.BAD);
        Sun.due("restore(2)", x.restore(2), Sun.BAD);
        Sun.due("restore(1)", x.restore(1), Sun.STATE);
        Sun.feed(x, "law 2 3;" + FOUR);
        x.beach();
        x.hour();
        x.leave(2);
        x.shade(3, 1);
        x.cloud(4);
        x.gift(0, 5);
        Sun.due("image(1)", x.image(1), 1);
        Sun.due("acts stay", x.count(4), 5);
        Sun.due("restore(0), not kept", x.restore(0), Sun.STATE);
        Sun.hours(x, 5);
        x.sunset();
        Sun.feed(x, PAIR);
        x.beach();
        x.hour();
        x.image(0);
        Sun.due("restore(1)", x.restore(1), 1);
        Sun.due("guests", x.count(1), 4);
        Sun.due("hours", x.count(2), 1);
        Sun.due("days", x.count(3), 0);
        Sun.due("no act", x.count(4), 0);
        Sun.due("undo", x.undo(), Sun.STATE);
        Sun.due("there", x.count(5), 3);
        Sun.due("hours of 2", x.guest(2, 4), 1);
        Sun.due("umbrella", x.guest(3, 5), 1);
        Sun.due("cloud", x.price(4), 2);
        Sun.due("purse", x.guest(0, 1), 45);
        Sun.due("kind", x.kind(3), 5);
        Sun.row(x, 0, 6, 6, 6, 6);
        Sun.due("its law", x.worth(0, 3, 1), 2 + 3 + 2 + 18);
        x.leave(0);
        Sun.due("restore(1) again", x.restore(1), 1);
        Sun.due("the image is as it was", x.count(5), 3);
        Sun.due("restore(0)", x.restore(0), 1);
        Sun.due("the other beach", x.count(1), 2);
        Sun.due("its hours", x.count(2), 1);
    }

    private static void withoutGuests() {
        LastSun x = Sun.on("law 0 0;sun 1 2 3 4 5 6;", 0);
        Sun.due("rounds by a missing row", x.rounds(0, -1), Sun.NULL);
        x.row(0, 0, 0);
        Sun.due("rounds", x.rounds(0, -1), 1);
        Sun.due("rests", x.rests(-1), 1);
        Sun.due("rests of 0", x.rests(0), Sun.BAD);
        Sun.due("explained", x.explained(0, -1), 1);
        Sun.due("fairest", x.laws(0, 0), 0);
        Sun.due("laws", x.laws(0, 1), 7);
        Sun.due("owner's price", x.owner(0, 0), 0);
        Sun.due("owner's sum", x.owner(0, 1), 0);
        Sun.due("worth", x.worth(0, 0, 0), Sun.BAD);
        Sun.due("image", x.image(0), 1);
        Sun.due("restore", x.restore(0), 1);
    }
}
