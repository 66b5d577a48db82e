/** Promises 6 to 8: feed, beach, fault. */
public final class TextsTest {
    private static final String LAW = "law 1 2;", SUN = "sun 1 2 3 4 5 6;", ONE = "guest lone 6 40 4;";

    public static void main(String[] args) {
        feed();
        full();
        good();
        faults();
        ends();
        allStays();
        Sun.end("TextsTest");
    }

    private static void feed() {
        LastSun x = new LastSun();
        Sun.due("feed(0, 0)", x.feed(0, 0), Sun.BAD);
        Sun.due("feed(0, 9)", x.feed(0, 9), Sun.BAD);
        Sun.due("feed(0, -1)", x.feed(0, -1), Sun.BAD);
        Sun.due("count(7)", x.count(7), 0);
        Sun.due("feed 'law'", x.feed(0x6161616c6177L, 3), 3);
        Sun.due("feed ' 0 0;'", x.feed(0x20302030_3bL, 5), 8);
        Sun.due("count(7)", x.count(7), 8);
        Sun.due("beach() lacks a sun", x.beach(), -1000108);
        Sun.due("count(7)", x.count(7), 0);
    }

    private static void full() {
        LastSun x = new LastSun();
        for (int i = 1; i <= 49; i++) {
            x.feed(0x2020202020202020L, 8);
        }
        Sun.due("392 bytes", x.count(7), 392);
        Sun.due("feed 1", x.feed(' ', 1), 393);
        Sun.due("feed 8 more", x.feed(0, 8), Sun.FULL);
        Sun.due("BAD ahead of FULL", x.feed(0, 9), Sun.BAD);
        Sun.due("none came", x.count(7), 393);
        Sun.due("feed 7 more", x.feed(0x20202020202020L, 7), 400);
        Sun.due("feed 1 more", x.feed(0, 1), Sun.FULL);
        Sun.due("beach() of blanks: the end", x.beach(), -1000500);
        Sun.due("fault()", x.fault(), 1);
        Sun.due("feed again", x.feed(0, 1), 1);
    }

    private static void good() {
        Sun.on(LAW + SUN, 0);
        Sun.on("law 2 9;sun 30 0 030 000 0 30;", 0);
        Sun.on("law 0 0;" + SUN + "guest lone 0 0 1;guest aunt 20 200 6;guest child 1 1 1;guest clan 1 1 1;", 4);
        Sun.on("law0 0;" + SUN, 0);
        Sun.on("\n law\n1 2 ;  sun 1 2\n3 4 5 6;guest\nband 001 002 003 ; \n", 1);
        LastSun x = Sun.on(LAW + SUN + ONE + "guest band 7 41 5;", 2);
        for (int h = 0; h < 6; h++) {
            Sun.due("price(" + h + ")", x.price(h), h + 1);
        }
        int[] want = {7, 41, 5, 1, 0, 0, 0};
        for (int what = 0; what < 7; what++) {
            Sun.due("guest(1, " + what + ")", x.guest(1, what), want[what]);
        }
        String[] sorts = {"lone", "aunt", "child", "band", "clan"};
        for (int s = 0; s < 5; s++) {
            LastSun y = Sun.on(LAW + SUN + "guest " + sorts[s] + " 1 1 1;", 1);
            Sun.due("kind of " + sorts[s], y.kind(0), s + 1);
        }
    }

    private static void dueFault(String text, int place, int number) {
        LastSun x = new LastSun();
        Sun.feed(x, text);
        Sun.due("beach() of '" + text + "'", x.beach(), -1000100 - place);
        Sun.due("fault() of '" + text + "'", x.fault(), number);
        Sun.due("count(7) behind '" + text + "'", x.count(7), 0);
        Sun.due("count(1) behind '" + text + "'", x.count(1), 0);
        Sun.due("price(0) behind '" + text + "'", x.price(0), Sun.STATE);
    }

    private static void faults() {
        dueFault("", 0, 1);
        dueFault("sun 1 2 3 4 5 6;", 0, 1);
        dueFault("Law 0 0;", 0, 1);
        dueFault(" lawn 0 0;", 1, 1);
        dueFault("la w 0 0;", 0, 1);
        dueFault("law x 0;", 4, 1);
        dueFault("law ;", 4, 1);
        dueFault("law -1 0;", 4, 1);
        dueFault("law 3 77;", 4, 2);
        dueFault("law 1 10;", 6, 2);
        dueFault("law 1 999;", 6, 2);
        dueFault("law 0000 0;", 4, 1);
        dueFault("law 1000 0;", 4, 1);
        dueFault("law 1 2 3;", 8, 1);
        dueFault("law 1 2,", 7, 1);
        dueFault("law 1 2;;", 8, 1);
        dueFault("law 1 2\t;", 7, 1);
        dueFault("law 1 2\r\n;", 7, 1);
        dueFault(LAW + "law 1 2;", 8, 1);
        dueFault(LAW + "sun 31 0 0 0 0 0;", 12, 2);
        dueFault(LAW + "sun 1 2 3 4 5;", 21, 1);
        dueFault(LAW + "sun 1 2 3 4 5 6 7;", 24, 1);
        dueFault(LAW + "sun 1 2 3 4 5 31;", 22, 2);
        dueFault(LAW + SUN + "guests lone 1 1 1;", 24, 1);
        dueFault(LAW + SUN + "guest lonely 1 1 1;", 30, 1);
        dueFault(LAW + SUN + "guest 1 1 1;", 30, 1);
        dueFault(LAW + SUN + "guest lone 21 1 1;", 35, 2);
        dueFault(LAW + SUN + "guest lone 1 201 1;", 37, 2);
        dueFault(LAW + SUN + "guest lone 1 1 0;", 39, 2);
        dueFault(LAW + SUN + "guest lone 1 1 7;", 39, 2);
        dueFault(LAW + SUN + "guest lone 1 1 1 1;", 41, 1);
        dueFault(LAW + SUN + "guest lone 1 1;", 38, 1);
        dueFault(LAW + SUN + ONE + ONE + ONE + ONE + ONE, 24 + 4 * 18, 3);
        dueFault(LAW + SUN + ONE + ONE + ONE + ONE + "guest", 24 + 4 * 18, 3);
        dueFault(LAW + SUN + ONE + ONE + ONE + ONE + " 5", 25 + 4 * 18, 1);
        dueFault(LAW + SUN + ONE + ONE + ONE + ONE + "guests", 24 + 4 * 18, 1);
        dueFault(LAW + SUN + ";", 24, 1);
        dueFault(LAW + SUN + "\u00e9", 24, 1);
        dueFault(LAW + SUN + "\u0000", 24, 1);
        dueFault(LAW + "sun { 1", 12, 1);
    }

    private static void ends() {
        dueFault("law", 3, 1);
        dueFault("law  ", 5, 1);
        dueFault("law 0", 5, 1);
        dueFault("law 0 0\n", 8, 1);
        dueFault(LAW, 8, 1);
        dueFault(LAW + "sun 1 2", 15, 1);
        dueFault(LAW + SUN + "guest", 29, 1);
        dueFault(LAW + SUN + "guest lone", 34, 1);
        dueFault(LAW + SUN + "guest lone 1 1 1", 40, 1);
    }

    private static void allStays() {
        LastSun x = Sun.on(LAW + SUN + ONE, 1);
        x.hour();
        x.cloud(3);
        x.shade(0, 1);
        Sun.feed(x, LAW + "sun 30 30 30 30 30 30;guest aunt 1 1 9;");
        Sun.due("a faulty beach", x.beach(), -1000100 - 45);
        Sun.due("its fault", x.fault(), 2);
        Sun.due("guests as ahead", x.count(1), 1);
        Sun.due("hours as ahead", x.count(2), 1);
        Sun.due("acts as ahead", x.count(4), 3);
        Sun.due("price as ahead", x.price(3), 2);
        Sun.due("warmth as ahead", x.guest(0, 0), 6);
        Sun.due("undo still", x.undo(), 2);
        Sun.feed(x, "law 0 0;sun 9 9 9 9 9 9;guest aunt 1 2 3;guest clan 4 5 6;");
        Sun.due("another beach", x.beach(), 2);
        Sun.due("the latest fault", x.fault(), 2);
        Sun.due("no hour gone", x.count(2), 0);
        Sun.due("no act to undo", x.undo(), Sun.STATE);
        Sun.due("no cloud", x.price(3), 9);
        Sun.due("no umbrella", x.guest(0, 5), 0);
        Sun.due("all there", x.count(5), 2);
    }
}
