/** Promises 9 to 17: hour, leave, cloud, shade, gift, sunset, undo, guest, price. */
public final class ActsTest {
    private static final String TEXT = "law 0 2;sun 3 5 9 6 4 2;"
        + "guest lone 6 40 4;guest aunt 3 9 6;guest child 4 0 2;guest clan 8 90 5;";

    public static void main(String[] args) {
        withoutBeach();
        hour();
        leave();
        cloud();
        shade();
        gift();
        sunsetByLongest();
        sunsetByWeight();
        sunsetByHours();
        nobodyThere();
        debts();
        mostDebt();
        lastDay();
        undo();
        forgotten();
        guest();
        Sun.end("ActsTest");
    }

    private static void withoutBeach() {
        LastSun x = new LastSun();
        Sun.due("hour()", x.hour(), Sun.STATE);
        Sun.due("leave(0)", x.leave(0), Sun.BAD);
        Sun.due("cloud(0)", x.cloud(0), Sun.STATE);
        Sun.due("cloud(9): STATE ahead of BAD", x.cloud(9), Sun.STATE);
        Sun.due("shade(0, 1)", x.shade(0, 1), Sun.BAD);
        Sun.due("gift(0, 1)", x.gift(0, 1), Sun.BAD);
        Sun.due("sunset()", x.sunset(), Sun.STATE);
        Sun.due("undo()", x.undo(), Sun.STATE);
        Sun.due("guest(0, 0)", x.guest(0, 0), Sun.BAD);
        Sun.due("price(9): STATE ahead of BAD", x.price(9), Sun.STATE);
    }

    private static void hour() {
        LastSun x = Sun.on(TEXT, 4);
        int[] prices = {3, 5, 9, 6, 4, 2};
        for (int h = 0; h < 6; h++) {
            Sun.due("hour " + h, x.hour(), prices[h]);
            Sun.due("hours gone", x.count(2), h + 1);
        }
        Sun.due("hour 6", x.hour(), Sun.FULL);
        Sun.due("acts", x.count(4), 6);
        LastSun y = Sun.on("law 0 0;sun 3 5 9 6 4 2;", 0);
        Sun.due("hour without guests", y.hour(), 0);
        Sun.due("hours gone", y.count(2), 1);
        LastSun z = Sun.on("law 0 0;sun 3 5 9 6 4 2;guest lone 1 1 1;", 1);
        z.cloud(1);
        Sun.due("hour 0", z.hour(), 3);
        Sun.due("hour 1 by cloud", z.hour(), 2);
        z.leave(0);
        Sun.due("hour 2 with nobody", z.hour(), 0);
    }

    private static void leave() {
        LastSun x = Sun.on(TEXT, 4);
        Sun.due("leave(-1)", x.leave(-1), Sun.BAD);
        Sun.due("leave(4)", x.leave(4), Sun.BAD);
        Sun.due("leave(1) at once", x.leave(1), 0);
        Sun.due("there", x.count(5), 3);
        Sun.hours(x, 3);
        Sun.due("leave(1) again", x.leave(1), Sun.STATE);
        Sun.due("leave(3)", x.leave(3), 3);
        Sun.hours(x, 3);
        Sun.due("leave(0) at the end", x.leave(0), 6);
        Sun.due("hours of 0", x.guest(0, 4), 6);
        Sun.due("hours of 1", x.guest(1, 4), 0);
        Sun.due("hours of 2", x.guest(2, 4), 6);
        Sun.due("hours of 3", x.guest(3, 4), 3);
        Sun.due("2 is there", x.guest(2, 3), 1);
        Sun.due("3 is not", x.guest(3, 3), 0);
        Sun.due("there", x.count(5), 1);
    }

    private static void cloud() {
        LastSun x = Sun.on(TEXT, 4);
        Sun.due("cloud(-1)", x.cloud(-1), Sun.BAD);
        Sun.due("cloud(6)", x.cloud(6), Sun.BAD);
        Sun.due("cloud(2)", x.cloud(2), 4);
        Sun.due("cloud(2) again", x.cloud(2), Sun.STATE);
        Sun.due("price(2)", x.price(2), 4);
        Sun.due("price(1)", x.price(1), 5);
        x.hour();
        Sun.due("cloud(0) gone", x.cloud(0), Sun.STATE);
        Sun.due("cloud(1) to come", x.cloud(1), 2);
        Sun.due("cloud(5)", x.cloud(5), 1);
        Sun.hours(x, 5);
        Sun.due("cloud(4) gone", x.cloud(4), Sun.STATE);
        Sun.due("cloud(6) behind all", x.cloud(6), Sun.BAD);
    }

    private static void shade() {
        LastSun x = Sun.on(TEXT, 4);
        Sun.due("shade(4, 1)", x.shade(4, 1), Sun.BAD);
        Sun.due("shade(-1, 1)", x.shade(-1, 1), Sun.BAD);
        Sun.due("shade(0, 2)", x.shade(0, 2), Sun.BAD);
        Sun.due("shade(0, -1)", x.shade(0, -1), Sun.BAD);
        Sun.due("shade(2, 1)", x.shade(2, 1), 0);
        Sun.due("under it", x.guest(2, 5), 1);
        Sun.due("others not", x.guest(1, 5) + x.guest(3, 5), 0);
        Sun.due("shade(2, 1) again", x.shade(2, 1), 1);
        Sun.due("shade(2, 0)", x.shade(2, 0), 1);
        Sun.due("shade(2, 0) again", x.shade(2, 0), 0);
        Sun.due("acts", x.count(4), 4);
        x.leave(2);
        Sun.due("shade of one who left", x.shade(2, 1), 0);
    }

    private static void gift() {
        LastSun x = Sun.on(TEXT, 4);
        Sun.due("gift(4, 1)", x.gift(4, 1), Sun.BAD);
        Sun.due("gift(0, 0)", x.gift(0, 0), Sun.BAD);
        Sun.due("gift(0, 1000)", x.gift(0, 1000), Sun.BAD);
        Sun.due("gift(0, 999)", x.gift(0, 999), 0);
        Sun.due("purse", x.guest(0, 1), 1039);
        for (int i = 0; i < 8; i++) {
            x.gift(0, 999);
        }
        Sun.due("purse", x.guest(0, 1), 9031);
        Sun.due("a purse above 9999", x.gift(0, 969), Sun.FULL);
        Sun.due("BAD ahead of FULL", x.gift(0, 1000), Sun.BAD);
        Sun.due("purse as ahead", x.guest(0, 1), 9031);
        Sun.due("acts", x.count(4), 9);
        Sun.due("a purse of 9999", x.gift(0, 968), 0);
        Sun.due("purse", x.guest(0, 1), 9999);
        Sun.hours(x, 6);
        x.sunset();
        Sun.due("debt of 2", x.guest(2, 6), 6);
        Sun.due("gift(2, 3) to a debt", x.gift(2, 3), 3);
        Sun.due("no purse yet", x.guest(2, 1), 0);
        Sun.due("gift(2, 6)", x.gift(2, 6), 0);
        Sun.due("what is over", x.guest(2, 1), 3);
    }

    /** SUM 29, all there: 5 HEADS pay 6, 6, 6, 6, 5; the aunt under an umbrella 12 more. */
    private static void sunsetByLongest() {
        LastSun x = Sun.on(TEXT, 4);
        Sun.hours(x, 5);
        Sun.due("sunset() ahead of its time", x.sunset(), Sun.STATE);
        x.hour();
        x.shade(1, 1);
        Sun.due("sunset()", x.sunset(), 29);
        dueMoney(x, 0, 34, 0);
        dueMoney(x, 1, 0, 9);
        dueMoney(x, 2, 0, 6);
        dueMoney(x, 3, 79, 0);
        Sun.due("hours gone", x.count(2), 0);
        Sun.due("days gone", x.count(3), 1);
        Sun.due("umbrella stays", x.guest(1, 5), 1);
        Sun.due("debts", x.count(6), 15);
        Sun.due("sunset() again", x.sunset(), Sun.STATE);
    }

    /** SUM 23, HOURS 1, 2, 4, 4 (a clan is two HEADS), by 15: 23 / 15, 46 / 15, 92 / 15, 184 / 15; 1 over. */
    private static void sunsetByWeight() {
        LastSun x = Sun.on(TEXT.replace("law 0 2", "law 1 2"), 4);
        x.hour();
        x.leave(0);
        x.hour();
        x.leave(1);
        Sun.hours(x, 2);
        x.leave(2);
        x.leave(3);
        Sun.hours(x, 2);
        Sun.due("sunset()", x.sunset(), 23);
        dueMoney(x, 0, 39, 0);
        dueMoney(x, 1, 6, 0);
        dueMoney(x, 2, 0, 7);
        dueMoney(x, 3, 78, 0);
    }

    /** HOUR 0: 3 by 5 HEADS (1 1 1 0); 1: 5 by 4 (2 1 2 without the aunt); 2: 4 by cloud, clan alone. */
    private static void sunsetByHours() {
        LastSun x = Sun.on(TEXT.replace("law 0 2", "law 2 2"), 4);
        x.cloud(2);
        x.shade(3, 1);
        x.hour();
        x.leave(1);
        x.hour();
        x.leave(0);
        x.leave(2);
        x.hour();
        x.leave(3);
        Sun.hours(x, 3);
        Sun.due("sunset()", x.sunset(), 12);
        dueMoney(x, 0, 40 - 1 - 2, 0);
        dueMoney(x, 1, 9 - 1, 0);
        dueMoney(x, 2, 0, 1 + 1);
        dueMoney(x, 3, 90 - 2 - 4 - 3 * 2, 0);
        Sun.due("no cloud on the next day", x.price(2), 9);
        Sun.due("all there again", x.count(5), 4);
    }

    private static void dueMoney(LastSun x, int guest, int purse, int debt) {
        Sun.due("purse of " + guest, x.guest(guest, 1), purse);
        Sun.due("debt of " + guest, x.guest(guest, 6), debt);
    }

    private static void nobodyThere() {
        for (int split = 0; split < 3; split++) {
            LastSun x = Sun.on(TEXT.replace("law 0 2", "law " + split + " 2"), 4);
            for (int g = 0; g < 4; g++) {
                x.shade(g, 1);
                x.leave(g);
            }
            Sun.hours(x, 6);
            Sun.due("sunset() with nobody", x.sunset(), 0);
            dueMoney(x, 0, 40, 0);
            dueMoney(x, 2, 0, 0);
        }
        LastSun y = Sun.on("law 1 9;sun 1 2 3 4 5 6;", 0);
        Sun.hours(y, 6);
        Sun.due("sunset() without guests", y.sunset(), 0);
        Sun.due("days", y.count(3), 1);
    }

    /** A DEBT of 60 becomes 66, then 60 more are owed: 126; then 138 and 60. */
    private static void debts() {
        LastSun x = Sun.on("law 2 0;sun 10 10 10 10 10 10;guest lone 0 0 1;", 1);
        int[] due = {60, 126, 198, 277};
        for (int d = 0; d < 4; d++) {
            Sun.hours(x, 6);
            x.sunset();
            Sun.due("debt behind day " + d, x.guest(0, 6), due[d]);
        }
        Sun.due("a gift to the debt", x.gift(0, 270), 7);
        x.gift(0, 17);
        Sun.due("purse", x.guest(0, 1), 10);
        x.leave(0);
        Sun.hours(x, 6);
        x.sunset();
        Sun.due("no debt from none", x.guest(0, 6), 0);
    }

    private static void mostDebt() {
        LastSun x = Sun.on("law 2 9;sun 30 30 30 30 30 30;guest lone 0 0 1;", 1);
        x.shade(0, 1);
        for (int d = 0; d < 40; d++) {
            Sun.hours(x, 6);
            x.sunset();
        }
        Sun.due("debt at most", x.guest(0, 6), 9999);
        Sun.due("days", x.count(3), 40);
        Sun.due("debt in all", x.count(6), 9999);
        Sun.due("owes no more", x.owes(0, 60), 9999);
        Sun.due("gift", x.gift(0, 999), 9000);
        Sun.due("owes", x.owes(0, 1), 9900);
        Sun.due("owes at most", x.owes(0, 2), 9999);
    }

    /** More calls than the document promises anything for, as DAY 999 lies behind them. */
    private static void lastDay() {
        LastSun x = Sun.on("law 0 0;sun 1 1 1 1 1 1;", 0);
        for (int d = 0; d < 999; d++) {
            Sun.hours(x, 6);
            Sun.due("sunset " + d, x.sunset(), 0);
        }
        Sun.due("STATE ahead of FULL", x.sunset(), Sun.STATE);
        Sun.hours(x, 6);
        Sun.due("sunset on day 999", x.sunset(), Sun.FULL);
        Sun.due("days", x.count(3), 999);
        Sun.due("hours", x.count(2), 6);
    }

    private static void undo() {
        LastSun x = Sun.on(TEXT, 4);
        Sun.due("undo of none", x.undo(), Sun.STATE);
        x.shade(1, 1);
        x.cloud(5);
        x.hour();
        x.leave(2);
        Sun.hours(x, 5);
        x.gift(0, 7);
        x.sunset();
        x.gift(2, 1);
        Sun.due("acts", x.count(4), 12);
        Sun.due("undo gift", x.undo(), 11);
        dueMoney(x, 2, 0, 0);
        Sun.due("undo sunset", x.undo(), 10);
        Sun.due("day", x.count(3), 0);
        Sun.due("hours", x.count(2), 6);
        Sun.due("2 left", x.guest(2, 4), 1);
        Sun.due("cloud", x.price(5), 1);
        dueMoney(x, 0, 47, 0);
        dueMoney(x, 1, 9, 0);
        Sun.due("undo gift", x.undo(), 9);
        dueMoney(x, 0, 40, 0);
        for (int h = 5; h > 0; h--) {
            Sun.due("undo an hour", x.undo(), 3 + h);
            Sun.due("hours", x.count(2), h);
        }
        Sun.due("undo leave", x.undo(), 3);
        Sun.due("2 is there", x.guest(2, 3), 1);
        Sun.due("undo the hour", x.undo(), 2);
        Sun.due("undo cloud", x.undo(), 1);
        Sun.due("price", x.price(5), 2);
        Sun.due("undo shade", x.undo(), 0);
        Sun.due("umbrella", x.guest(1, 5), 0);
        Sun.due("undo of none", x.undo(), Sun.STATE);
    }

    private static void forgotten() {
        LastSun x = Sun.on(TEXT, 4);
        for (int i = 1; i <= 60; i++) {
            x.gift(3, 1);
            Sun.due("acts", x.count(4), Math.min(i, 24));
        }
        Sun.due("a refused act is none", x.gift(3, 0), Sun.BAD);
        for (int i = 23; i >= 0; i--) {
            Sun.due("undo", x.undo(), i);
        }
        Sun.due("the oldest are forgotten", x.undo(), Sun.STATE);
        Sun.due("purse of 36 gifts", x.guest(3, 1), 126);
        x.hour();
        Sun.due("acts again", x.count(4), 1);
        Sun.due("undo", x.undo(), 0);
        Sun.due("hours", x.count(2), 0);
    }

    private static void guest() {
        LastSun x = Sun.on(TEXT, 4);
        Sun.due("guest(-1, 0)", x.guest(-1, 0), Sun.BAD);
        Sun.due("guest(4, 0)", x.guest(4, 0), Sun.BAD);
        Sun.due("guest(0, -1)", x.guest(0, -1), Sun.BAD);
        Sun.due("guest(0, 7)", x.guest(0, 7), Sun.BAD);
        Sun.due("price(-1)", x.price(-1), Sun.BAD);
        Sun.due("price(6)", x.price(6), Sun.BAD);
        Sun.due("warmth", x.guest(3, 0), 8);
        Sun.due("purse", x.guest(3, 1), 90);
        Sun.due("burn", x.guest(3, 2), 5);
        x.hour();
        Sun.due("hours of one there", x.guest(3, 4), 1);
    }
}
