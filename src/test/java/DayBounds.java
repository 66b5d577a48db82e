/** What the Terms say of JOY, SHARES, PAY and WORTH of a DAY: each sentence, at its bounds. */
final class DayBounds extends Bounds {
    private static final String FREE = "law 0 0;sun 0 0 0 0 0 0;";
    private static final String[] SORTS = {"lone", "aunt", "child", "band", "clan"};

    private DayBounds() {
    }

    static void run() {
        joy();
        joyUnderUmbrella();
        joyOfChildren();
        joyOfCompany();
        heads();
        splitByLongest();
        splitByWeight();
        splitByHours();
        nobody();
        pay();
        payAtSunset();
    }

    /** WORTH of GUEST 0 by 0 to 6 HOURS, others as ROW 0 tells. */
    private static void dueWorths(LastSun x, int... worths) {
        for (int n = 0; n <= 6; n++) {
            x.set(0, 0, n);
            Sun.due("worth by " + n, x.worth(0, 0, 0), worths[n]);
        }
    }

    private static void joy() {
        says(0, "JOY of a GUEST in an HOUR in which it is there: under an umbrella half of its WARMTH (cut); "
            + "else WARMTH, or, if it was there in BURN HOURS or more ahead of that, 0 less WARMTH; "
            + "then: of a child twice that in HOURS 0 to 2; of an aunt 1 more for each other GUEST that is there; "
            + "of a band, a clan 1 less for each other one.");
        for (String sort : new String[] {"lone", "aunt", "band", "clan"}) {
            for (int burn = 1; burn <= 6; burn++) {
                LastSun x = Sun.on(FREE + "guest " + sort + " 5 0 " + burn + ";", 1);
                Sun.row(x, 0, 0);
                int[] worths = new int[7];
                for (int n = 1; n <= 6; n++) {
                    worths[n] = worths[n - 1] + (n <= burn ? 5 : -5);
                }
                dueWorths(x, worths);
            }
        }
        for (int warmth : new int[] {0, 1, 20}) {
            LastSun x = Sun.on(FREE + "guest lone " + warmth + " 0 6;", 1);
            Sun.row(x, 0, 6);
            due(x, 6 * warmth, "worth", 0, 0, 0);
        }
    }

    private static void joyUnderUmbrella() {
        int[] warmths = {0, 1, 2, 3, 19, 20};
        int[] halves = {0, 0, 1, 1, 9, 10};
        for (int i = 0; i < warmths.length; i++) {
            for (String sort : SORTS) {
                LastSun x = Sun.on(FREE + "guest " + sort + " " + warmths[i] + " 0 1;", 1);
                x.shade(0, 1);
                Sun.row(x, 0, 6);
                due(x, halves[i] * (sort.equals("child") ? 9 : 6), "worth", 0, 0, 0);
                x.shade(0, 0);
                Sun.row(x, 0, 1);
                due(x, warmths[i] * (sort.equals("child") ? 2 : 1), "worth", 0, 0, 0);
            }
        }
    }

    private static void joyOfChildren() {
        LastSun x = Sun.on(FREE + "guest child 5 0 6;", 1);
        Sun.row(x, 0, 0);
        dueWorths(x, 0, 10, 20, 30, 35, 40, 45);
        x.shade(0, 1);
        dueWorths(x, 0, 4, 8, 12, 14, 16, 18);
        LastSun y = Sun.on(FREE + "guest child 5 0 1;", 1);
        Sun.row(y, 0, 0);
        dueWorths(y, 0, 10, 0, -10, -15, -20, -25);
        LastSun z = Sun.on(FREE + "guest child 5 0 6;guest clan 1 0 6;", 2);
        Sun.row(z, 0, 0, 6);
        dueWorths(z, 0, 10, 20, 30, 35, 40, 45);
    }

    /** Others are there in none, in 1, in 6 HOURS; a clan is one GUEST, though two HEADS. */
    private static void joyOfCompany() {
        String others = "guest clan 1 0 6;guest clan 1 0 6;guest clan 1 0 6;";
        int[] more = {0, 1, 0, -1, -1};
        for (int s = 0; s < 5; s++) {
            LastSun x = Sun.on(FREE + "guest " + SORTS[s] + " 0 0 6;" + others, 4);
            Sun.row(x, 0, 0, 0, 1, 6);
            dueWorths(x, 0, 2 * more[s], 3 * more[s], 4 * more[s], 5 * more[s], 6 * more[s], 7 * more[s]);
            Sun.row(x, 0, 0, 0, 0, 0);
            dueWorths(x, 0, 0, 0, 0, 0, 0, 0);
            Sun.row(x, 0, 6, 6, 6, 6);
            due(x, 18 * more[s], "worth", 0, 0, 0);
            x.shade(0, 1);
            due(x, 18 * more[s], "worth", 0, 0, 0);
        }
    }

    private static void dueShares(String law, String prices, String sorts, int[] hours, int... shares) {
        StringBuilder text = new StringBuilder(law).append("sun ").append(prices).append(';');
        for (String sort : sorts.split(" ")) {
            text.append("guest ").append(sort).append(" 1 0 6;");
        }
        LastSun x = Sun.on(text.toString(), shares.length);
        Sun.row(x, 0, hours);
        for (int g = 0; g < shares.length; g++) {
            due(x, shares[g], "worth", 0, g, 2);
            due(x, shares[g], "worth", 0, g, 1);
        }
    }

    private static int[] of(int... hours) {
        return hours;
    }

    /** A PRICE of 0 to 10 by a clan between two others: HEADS 0 | 1 1 | 2. */
    private static void heads() {
        says(0, "SHARES of a DAY, by how many HOURS each GUEST was there (from HOUR 0 on): HEADS: a clan is two of them, "
            + "who stand side by side; all others are one. SUM: PRICES of all HOURS in which somebody was there.");
        int[][] due = {{0, 0, 0}, {1, 0, 0}, {1, 1, 0}, {1, 2, 0}, {1, 2, 1}, {2, 2, 1}, {2, 3, 1}, {2, 4, 1}, {2, 4, 2}};
        for (int price = 0; price < due.length; price++) {
            for (String law : new String[] {"law 0 0;", "law 2 0;"}) {
                dueShares(law, price + " 9 9 9 9 9", "lone clan child", of(1, 1, 1), due[price]);
                dueShares(law, price + " 9 9 9 9 9", "aunt clan band", of(1, 1, 1), due[price]);
            }
        }
        dueShares("law 0 0;", "3 9 9 9 9 9", "clan clan", of(1, 1), 2, 1);
        dueShares("law 0 0;", "1 9 9 9 9 9", "clan lone", of(1, 1), 1, 0);
        dueShares("law 0 0;", "2 9 9 9 9 9", "clan lone", of(1, 1), 2, 0);
        dueShares("law 0 0;", "1 2 4 8 16 30", "lone lone", of(0, 0), 0, 0);
        int[] sums = {0, 1, 3, 7, 15, 31, 61};
        for (int n = 0; n <= 6; n++) {
            dueShares("law 0 0;", "1 2 4 8 16 30", "lone lone", of(0, n), 0, sums[n]);
            dueShares("law 1 0;", "1 2 4 8 16 30", "lone lone", of(n, 0), sums[n], 0);
            dueShares("law 2 0;", "1 2 4 8 16 30", "lone lone", of(0, n), 0, sums[n]);
        }
    }

    private static void splitByLongest() {
        says(0, "SPLIT 0: SUM is paid by the HEADS of those who were there the longest (all of them, HOUR for HOUR as many), "
            + "as alike as can be, the first ones (by GUESTS) one more.");
        dueShares("law 0 0;", "10 1 1 1 1 1", "lone lone", of(6, 5), 15, 0);
        dueShares("law 0 0;", "10 1 1 1 1 1", "lone lone", of(5, 6), 0, 15);
        dueShares("law 0 0;", "10 1 1 1 1 1", "lone lone", of(6, 6), 8, 7);
        dueShares("law 0 0;", "10 1 1 1 1 1", "lone lone lone", of(5, 6, 6), 0, 8, 7);
        dueShares("law 0 0;", "10 1 1 1 1 1", "lone lone lone", of(6, 1, 6), 8, 0, 7);
        dueShares("law 0 0;", "10 1 1 1 1 1", "clan lone lone", of(1, 2, 2), 0, 6, 5);
        dueShares("law 0 0;", "10 1 1 1 1 1", "lone clan lone", of(1, 1, 1), 3, 5, 2);
        dueShares("law 0 0;", "10 1 1 1 1 1", "lone lone lone lone", of(6, 6, 6, 6), 4, 4, 4, 3);
    }

    /** SUM times HOURS times HEADS, each cut; what is over goes to the first of the longest, be it GUEST 0 or not. */
    private static void splitByWeight() {
        says(0, "SPLIT 1: each pays SUM times its HOURS times its HEADS, by all HOURS times HEADS added up; "
            + "what is left over then the first one of those who were there the longest pays.");
        dueShares("law 1 0;", "4 4 4 4 4 4", "lone lone", of(1, 2), 2, 6);
        dueShares("law 1 0;", "4 4 4 4 4 4", "lone lone", of(2, 1), 6, 2);
        dueShares("law 1 0;", "3 3 9 9 9 9", "lone lone", of(1, 2), 2, 4);
        dueShares("law 1 0;", "5 9 9 9 9 9", "lone lone lone", of(1, 1, 1), 3, 1, 1);
        dueShares("law 1 0;", "2 9 9 9 9 9", "lone lone lone", of(1, 1, 1), 2, 0, 0);
        dueShares("law 1 0;", "5 5 9 9 9 9", "lone lone lone", of(1, 2, 2), 2, 4, 4);
        dueShares("law 1 0;", "5 6 9 9 9 9", "lone lone lone", of(1, 2, 2), 2, 5, 4);
        dueShares("law 1 0;", "5 9 9 9 9 9", "lone clan", of(1, 1), 2, 3);
        dueShares("law 1 0;", "5 6 9 9 9 9", "clan lone", of(1, 2), 5, 6);
        dueShares("law 1 0;", "30 30 30 30 30 30", "clan clan clan clan", of(6, 6, 6, 6), 45, 45, 45, 45);
    }

    private static void splitByHours() {
        says(0, "SPLIT 2: the PRICE of each HOUR is paid by the HEADS that were there, as alike as can be, "
            + "the first ones one more.");
        dueShares("law 2 0;", "5 3 7 9 9 9", "lone lone lone", of(3, 2, 1), 2 + 2 + 7, 2 + 1, 1);
        dueShares("law 2 0;", "5 3 7 9 9 9", "lone lone lone", of(1, 2, 3), 2, 2 + 2, 1 + 1 + 7);
        dueShares("law 2 0;", "5 3 7 9 9 9", "lone clan lone", of(0, 2, 2), 0, 4 + 2, 1 + 1);
        dueShares("law 2 0;", "1 1 1 1 1 1", "lone lone", of(6, 6), 6, 0);
        dueShares("law 2 0;", "1 1 1 1 1 1", "lone lone", of(5, 6), 5, 1);
    }

    private static void nobody() {
        says(0, "(Nobody was there: all pay 0.)");
        for (int split = 0; split <= 2; split++) {
            String law = "law " + split + " 9;";
            dueShares(law, "30 30 30 30 30 30", "lone clan aunt child", of(0, 0, 0, 0), 0, 0, 0, 0);
            dueShares(law, "30 1 1 1 1 1", "lone clan aunt child", of(0, 0, 1, 0), 0, 0, 30, 0);
            LastSun x = Sun.on(law + "sun 30 30 30 30 30 30;guest lone 9 50 6;guest clan 9 50 6;", 2);
            x.shade(1, 1);
            x.leave(0);
            x.leave(1);
            Sun.hours(x, 6);
            due(x, 0, "sunset");
            due(x, 50, "guest", 0, 1);
            due(x, 50, "guest", 1, 1);
            due(x, 0, "count", 6);
        }
    }

    private static void pay() {
        says(0, "PAY: its SHARE, and SHADE for each HOUR that it was there, if it is under an umbrella "
            + "(at sunset, whenever it went there). WORTH: JOY of all its HOURS, less PAY.");
        for (int shade : new int[] {0, 1, 9}) {
            LastSun x = Sun.on("law 2 " + shade + ";sun 4 4 4 4 4 4;guest lone 7 0 6;guest lone 7 0 6;", 2);
            x.shade(0, 1);
            for (int n = 0; n <= 6; n++) {
                Sun.row(x, 0, n, 0);
                due(x, 4 * n, "worth", 0, 0, 2);
                due(x, (4 + shade) * n, "worth", 0, 0, 1);
                due(x, (3 - 4 - shade) * n, "worth", 0, 0, 0);
                Sun.row(x, 0, 0, n);
                due(x, 4 * n, "worth", 0, 1, 1);
                due(x, 3 * n, "worth", 0, 1, 0);
                due(x, 0, "worth", 0, 0, 1);
            }
        }
    }

    /** GUEST 0 is under an umbrella at sunset alone, 1 till then, 2 goes there when it has left; SHADE is 9. */
    private static void payAtSunset() {
        LastSun x = Sun.on("law 2 9;sun 0 0 0 0 0 0;guest lone 7 99 6;guest lone 7 99 6;guest lone 7 99 6;", 3);
        x.shade(1, 1);
        Sun.hours(x, 2);
        x.leave(2);
        Sun.hours(x, 4);
        x.shade(0, 1);
        x.shade(1, 0);
        x.shade(2, 1);
        due(x, 0, "sunset");
        due(x, 99 - 6 * 9, "guest", 0, 1);
        due(x, 99, "guest", 1, 1);
        due(x, 99 - 2 * 9, "guest", 2, 1);
    }
}
