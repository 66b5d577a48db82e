import java.util.List;

/** Promises 6 to 8, and what the Terms say of THE TAPE, TEXTS and FAULTS: each sentence, at its bounds. */
final class TextBounds extends Bounds {
    private static final String LAW = "law 1 2;", SUN = "sun 1 2 3 4 5 6;", HEAD = LAW + SUN;
    private static final String LONE = "guest lone 6 40 4;";
    private static final String[] SORTS = {"lone", "aunt", "child", "band", "clan"};
    private static final Scenes.Scene RICH = Scenes.RICH;

    private TextBounds() {
    }

    static void run() {
        tape();
        feed();
        feedRefused();
        bytesOfTokens();
        figures();
        beachOfParts();
        law();
        sun();
        guest();
        sorts();
        guests();
        stands();
        faults();
        ends();
        beach();
        beachRefused();
        fault();
    }

    /** A BEACH is read, and its GUESTS are counted. */
    private static LastSun read(String text, int guests) {
        LastSun x = Scenes.after(RICH);
        x.beach();
        Sun.feed(x, text);
        Sun.due("beach() of '" + text + "'", x.beach(), guests);
        Sun.due("guests of '" + text + "'", x.count(1), guests);
        return x;
    }

    /** A FAULT is told, and all but the tape and fault() is as it was. */
    private static void faulty(String text, int place, int number) {
        for (Probes.Probe probe : Probes.ALL) {
            LastSun x = Scenes.after(TextBounds::richWithoutTape);
            Sun.feed(x, text);
            Sun.due("beach() of '" + text + "'", x.beach(), -1000100 - place);
            Sun.due("fault() of '" + text + "'", x.fault(), number);
            Sun.due("count(7) behind '" + text + "'", x.count(7), 0);
            Sun.due("status() behind '" + text + "'", x.status(), 3);
            List<String> without = Probes.seenBy(probe, Scenes.after(TextBounds::richWithoutTape));
            dueAlike("'" + text + "'", Probes.seenBy(probe, x), without, "fault()");
        }
    }

    private static void richWithoutTape(LastSun x) {
        Scenes.RICH.play(x);
        x.beach();
        x.restore(1);
        x.cloud(3);
        x.shade(3, 1);
    }

    private static void tape() {
        says(0, "THE TAPE has at most 400 bytes;");
        LastSun x = new LastSun();
        String blanks = " ".repeat(400 - HEAD.length() - LONE.length());
        Sun.feed(x, blanks + HEAD + LONE);
        due(x, 400, "count", 7);
        due(x, FULL, "feed", ' ', 1);
        due(x, 400, "count", 7);
        due(x, 1, "beach");
        due(x, 40, "guest", 0, 1);
        due(x, 1, "feed", ' ', 1);
        for (int n = 1; n <= 8; n++) {
            LastSun y = new LastSun();
            Sun.feed(y, " ".repeat(400 - n));
            due(y, 400, "feed", 0, n);
            LastSun z = new LastSun();
            Sun.feed(z, " ".repeat(401 - n));
            due(z, FULL, "feed", 0, n);
            due(z, 401 - n, "count", 7);
        }
        faulty(" ".repeat(400), 400, 1);
        faulty(" ".repeat(399) + "!", 399, 1);
    }

    private static void feed() {
        says(0, "Ahead of the calls `feed`, `beach`, `fault`, `hour`, `leave`, `cloud`, `shade`, `gift`, `sunset`, "
            + "`undo`, `guest`, `price` the interface says: ---- beaches, acts.");
        says(6, "The lowest n bytes of w (1 to 8), the highest of them first, come behind the tape: how many it has.");
        for (int n = 1; n <= 8; n++) {
            LastSun x = new LastSun();
            String text = HEAD + LONE;
            for (int at = 0; at < text.length(); at += n) {
                int many = Math.min(n, text.length() - at);
                due(x, at + many, "feed", wordOf(text, at, many), many);
            }
            due(x, 1, "beach");
            due(x, 6, "guest", 0, 0);
            due(x, 6, "price", 5);
        }
    }

    /** Bytes of a text, below others that must not come to the tape. */
    private static long wordOf(String text, int at, int n) {
        long w = 0x7878787878787878L;
        for (int i = 0; i < n; i++) {
            w = w << 8 | text.charAt(at + i);
        }
        return w;
    }

    private static void feedRefused() {
        says(6, "BAD: n; FULL: none comes.");
        for (int n : new int[] {MIN, -1, 0, 9, MAX}) {
            refused(RICH, BAD, "feed", 0x2020202020202020L, n);
            refused(Scenes.NO_BEACH, BAD, "feed", 0x2020202020202020L, n);
            refused(Scenes.TAPE_OF_393, BAD, "feed", 0x2020202020202020L, n);
        }
        answers(RICH, Scenes.UNREAD.length() + 1, "feed", ' ', 1);
        answers(RICH, Scenes.UNREAD.length() + 8, "feed", ' ', 8);
        refused(Scenes.TAPE_OF_393, FULL, "feed", 0x3b3b3b3b3b3b3b3bL, 8);
        answers(Scenes.TAPE_OF_393, 400, "feed", ' ', 7);
        Scenes.Scene full = x -> {
            Scenes.TAPE_OF_393.play(x);
            x.feed(0x20202020202020L, 7);
        };
        refused(full, FULL, "feed", ';', 1);
        refused(full, FULL, "feed", 0, 8);
        refused(full, BAD, "feed", 0, 0);
        refused(full, BAD, "feed", 0, 9);
    }

    /** Each byte there is, between a word and a NUMBER, and behind the last sign. */
    private static void bytesOfTokens() {
        says(0, "TOKENS: NAMES (letters a to z), NUMBERS (figures, 3 at most), SIGNS ; bytes 32 and 10 between.");
        for (int b = 0; b < 256; b++) {
            String between = "law" + (char) b + "1 2;" + SUN;
            String behind = HEAD + (char) b;
            boolean isLetter = b >= 'a' && b <= 'z';
            if (b == ' ' || b == '\n') {
                read(between, 0);
                read(behind, 0);
            } else if (b == '0') {
                read(between, 0);
                dueFault(behind, HEAD.length(), 1);
            } else {
                boolean isFigure = b >= '1' && b <= '9';
                dueFault(between, isLetter ? 0 : 3, isFigure ? 2 : 1);
                dueFault(behind, HEAD.length(), 1);
            }
        }
        read("law1 2;sun 1 2 3 4 5 6;guest lone6 40 4;guest\naunt 3 9\n6\n;\n", 2);
        read("\n\n law  1\n 2 ; sun 1 2 3 4 5 6 ;  ", 0);
        faulty("law 1 2;sun 1 2 3 4 5 6;guestlone 6 40 4;", 24, 1);
        faulty("law 1 2;sun 1 2 3 4 5 6x;", 23, 1);
        faulty("la w 1 2;", 0, 1);
        faulty("law 1 2\r;", 7, 1);
    }

    private static void dueFault(String text, int place, int number) {
        LastSun x = new LastSun();
        Sun.feed(x, text);
        Sun.due("beach() of '" + text + "'", x.beach(), -1000100 - place);
        Sun.due("fault() of '" + text + "'", x.fault(), number);
        Sun.due("price(0) behind '" + text + "'", x.price(0), STATE);
    }

    private static void figures() {
        read("law 001 002;sun 000 030 1 01 001 6;guest lone 020 200 006;", 1);
        faulty("law 0001 2;", 4, 1);
        faulty("law 1 0000;", 6, 1);
        faulty("law 1 2;sun 1 2 3 4 5 0030;", 22, 1);
        faulty("law 1 2;sun 1 2 3 4 5 6;guest lone 6 0200 4;", 37, 1);
        faulty("law 1 2;sun 1 2 3 4 5 6;guest lone 6 999 4;", 37, 2);
        faulty("law 1 2;sun 1 2 3 4 5 6;guest lone 6 1000 4;", 37, 1);
        faulty("law 1 2;sun 1 2 3 4 5 6;guest lone 6 99999999999 4;", 37, 1);
    }

    private static void beachOfParts() {
        says(0, "TEXTS:");
        says(0, "beach: law sun { guest }.");
        read(HEAD, 0);
        read(HEAD + LONE, 1);
        faulty("", 0, 1);
        faulty(LAW, 8, 1);
        faulty(SUN, 0, 1);
        faulty(LONE, 0, 1);
        faulty(SUN + LAW, 0, 1);
        faulty(LAW + LAW, 8, 1);
        faulty(LAW + LONE, 8, 1);
        faulty(HEAD + LAW, 24, 1);
        faulty(HEAD + SUN, 24, 1);
        faulty(HEAD + LONE + SUN, 42, 1);
        faulty(HEAD + ";", 24, 1);
        faulty(HEAD + "7", 24, 1);
        faulty(HEAD + "{ " + LONE + " }", 24, 1);
    }

    private static void law() {
        says(0, "law: 'law' SPLIT SHADE ';' (0 to 2; 0 to 9).");
        for (int split = 0; split <= 2; split++) {
            LastSun x = read("law " + split + " 9;sun 30 1 0 0 0 0;" + LONE + LONE, 2);
            x.shade(0, 1);
            Sun.row(x, 0, 2, 1);
            due(x, new int[] {31, 21, 16}[split], "worth", 0, 0, 2);
            due(x, new int[] {49, 39, 34}[split], "worth", 0, 0, 1);
        }
        LastSun x = read("law 0 0;sun 30 1 0 0 0 0;" + LONE, 1);
        x.shade(0, 1);
        Sun.row(x, 0, 6);
        due(x, 31, "worth", 0, 0, 1);
        faulty("law 3 0;" + SUN, 4, 2);
        faulty("law 999 0;" + SUN, 4, 2);
        faulty("law 2 10;" + SUN, 6, 2);
        faulty("law 3 10;" + SUN, 4, 2);
        faulty("law -1 0;" + SUN, 4, 1);
        faulty("law 0;" + SUN, 5, 1);
        faulty("law 0 0 0;" + SUN, 8, 1);
        faulty("law 0 0" + SUN, 7, 1);
        faulty("lawn 0 0;" + SUN, 0, 1);
        faulty("la 0 0;" + SUN, 0, 1);
        faulty("Law 0 0;" + SUN, 0, 1);
    }

    private static void sun() {
        says(0, "sun: 'sun' and 6 NUMBERS ';' (0 to 30; the price of heat in HOURS 0 to 5).");
        for (int h = 0; h < 6; h++) {
            String[] prices = {"10", "10", "10", "10", "10", "10"};
            for (int price : new int[] {0, 1, 29, 30}) {
                prices[h] = "" + price;
                LastSun x = read(LAW + "sun " + String.join(" ", prices) + ";", 0);
                for (int other = 0; other < 6; other++) {
                    due(x, other == h ? price : 10, "price", other);
                }
            }
            prices[h] = "31";
            faulty(LAW + "sun " + String.join(" ", prices) + ";", 12 + 3 * h, 2);
            prices[h] = "999";
            faulty(LAW + "sun " + String.join(" ", prices) + ";", 12 + 3 * h, 2);
        }
        faulty(LAW + "sun 1 2 3 4 5;", 21, 1);
        faulty(LAW + "sun 1 2 3 4 5 6 7;", 24, 1);
        faulty(LAW + "sun;", 11, 1);
        faulty(LAW + "sun 1 2 3 4 5 6", 23, 1);
        faulty(LAW + "sun 1 2 3 4 5 6" + LONE, 23, 1);
        faulty(LAW + "suns 1 2 3 4 5 6;", 8, 1);
    }

    private static void guest() {
        says(0, "guest: 'guest' SORT WARMTH PURSE BURN ';' (SORT: 'lone' | 'aunt' | 'child' | 'band' | 'clan'; "
            + "0 to 20; 0 to 200; 1 to 6; GUESTS 0 .. 3, 4 at most).");
        int[][] good = {{0, 0, 1}, {20, 200, 6}, {1, 1, 2}, {19, 199, 5}};
        for (int[] numbers : good) {
            LastSun x = read(HEAD + "guest lone " + numbers[0] + " " + numbers[1] + " " + numbers[2] + ";", 1);
            for (int what = 0; what < 3; what++) {
                due(x, numbers[what], "guest", 0, what);
            }
        }
        faulty(HEAD + "guest lone 21 40 4;", 35, 2);
        faulty(HEAD + "guest lone 6 201 4;", 37, 2);
        faulty(HEAD + "guest lone 6 40 0;", 40, 2);
        faulty(HEAD + "guest lone 6 40 7;", 40, 2);
        faulty(HEAD + "guest lone 6 40;", 39, 1);
        faulty(HEAD + "guest lone 6 40 4 1;", 42, 1);
        faulty(HEAD + "guest lone 6 40 4", 41, 1);
        faulty(HEAD + "guest lone ;", 35, 1);
        faulty(HEAD + "guest;", 29, 1);
        faulty(HEAD + "guest 6 40 4;", 30, 1);
        faulty(HEAD + "guests lone 6 40 4;", 24, 1);
        faulty(HEAD + "gues lone 6 40 4;", 24, 1);
    }

    private static void sorts() {
        for (int s = 0; s < 5; s++) {
            due(read(HEAD + "guest " + SORTS[s] + " 6 40 4;", 1), s + 1, "kind", 0);
            faulty(HEAD + "guest " + SORTS[s] + "s 6 40 4;", 30, 1);
            faulty(HEAD + "guest " + SORTS[s].substring(0, 3) + " 6 40 4;", 30, 1);
        }
        faulty(HEAD + "guest guest 6 40 4;", 30, 1);
        faulty(HEAD + "guest law 6 40 4;", 30, 1);
        oneLetterElse();
    }

    /** No word is another one but for a letter. */
    private static void oneLetterElse() {
        for (String sort : SORTS) {
            String text = HEAD + "guest " + sort + " 1 1 1;";
            for (int i = 0; i < text.length(); i++) {
                if (text.charAt(i) >= 'a' && text.charAt(i) <= 'z') {
                    int word = i;
                    while (word > 0 && text.charAt(word - 1) >= 'a') {
                        word--;
                    }
                    dueFault(text.substring(0, i) + 'x' + text.substring(i + 1), word, 1);
                }
            }
        }
    }

    private static void guests() {
        for (int many = 0; many <= 4; many++) {
            LastSun x = read(HEAD + LONE.repeat(many), many);
            for (int g = 0; g < 5; g++) {
                due(x, g < many ? 40 : BAD, "guest", g, 1);
            }
        }
        faulty(HEAD + LONE.repeat(5), 24 + 4 * 18, 3);
    }

    private static void stands() {
        says(0, "A BEACH that is read stands in place of the one before (none at first): DAY 0, HOUR 0 is to come; "
            + "all GUESTS are there, none under an umbrella, none has a DEBT; no HOUR is cloudy; "
            + "no ACT can be undone.");
        LastSun x = Scenes.after(Scenes.EVENING);
        Sun.due("somebody owes ahead", x.count(6) > 0 ? 1 : 0, 1);
        x.beach();
        Sun.feed(x, "law 2 9;sun 9 9 9 9 9 9;guest band 1 2 3;guest band 1 2 3;guest band 1 2 3;guest band 1 2 3;");
        due(x, 4, "beach");
        int[] counts = {5, 4, 0, 0, 0, 4, 0, 0};
        for (int what = 0; what < 8; what++) {
            due(x, counts[what], "count", what);
        }
        int[] guest = {1, 2, 3, 1, 0, 0, 0};
        for (int g = 0; g < 4; g++) {
            due(x, 4, "kind", g);
            for (int what = 0; what < 7; what++) {
                due(x, guest[what], "guest", g, what);
            }
        }
        for (int h = 0; h < 6; h++) {
            due(x, 9, "price", h);
        }
        due(x, STATE, "undo");
        due(x, 3, "status");
        due(x, 12, "trace", 0);
        due(x, 1, "restore", 0);
        due(x, 1, "count", 3);
    }

    private static void faults() {
        says(0, "FAULTS, the first TOKEN that has one (its first byte), of one TOKEN the least: "
            + "1 it cannot stand there, or is none (the end: how many bytes there are); "
            + "2 a NUMBER that is not as told; 3 a guest more than there is room for (its word).");
        faulty("law 1 10;sun 31 x", 6, 2);
        faulty("law 3 10;", 4, 2);
        faulty("  law   77 x", 8, 2);
        faulty("law 1 2;sun 1 2 3 31 x", 18, 2);
        faulty("law 1 2 999;", 8, 1);
        faulty("law 1 2;999", 8, 1);
        faulty("law 1 2;sun 1 2 3 4 5 6 999;", 24, 1);
        faulty("law # 3", 4, 1);
        faulty("law x 2;", 4, 1);
        faulty("law 1 sun;", 6, 1);
        faulty("law 1 ;", 6, 1);
        faulty("law 1 2;sun one 2 3 4 5 6;", 12, 1);
        faulty("law 1 2;sun 1 2 3 4 5 guest", 22, 1);
        faulty("law 1 2;sun 1 2 3 4 5 6;guest lone a 40 4;", 35, 1);
        faulty("law 1 2;sun 1 2 3 4 5 6;guest lone 6 ; 4;", 37, 1);
        faulty("law 1 2;sun 1 2 3 4 5 6;guest lone 6 40 z;", 40, 1);
        faulty("#law 1 2;", 0, 1);
        faulty("law 1 2;sun 1 2 3 4 5 6;guest lone 6 40 4;\u00e7", 42, 1);
        faulty(HEAD + LONE.repeat(4) + "guest", 96, 3);
        faulty(HEAD + LONE.repeat(4) + "\n guest x 99 999 0", 98, 3);
        faulty(HEAD + LONE.repeat(4) + "guests lone 6 40 4;", 96, 1);
        faulty(HEAD + LONE.repeat(4) + "gues", 96, 1);
        faulty(HEAD + LONE.repeat(4) + ";", 96, 1);
        faulty(HEAD + LONE.repeat(4) + "1", 96, 1);
        faulty(HEAD + LONE.repeat(3) + "guest lone 6 40 7;" + LONE, 94, 2);
        faulty(HEAD + LONE.repeat(3) + "guest guest", 84, 1);
    }

    /** Wherever a good text is cut, its end is where more should stand, or a word there is none of. */
    private static void ends() {
        String text = "law 1 2;sun 1 2 3 4 5 6;guest lone 6 40 4;";
        String[] words = {"law", "sun", "guest", "lone"};
        for (int length = 0; length < text.length(); length++) {
            if (length == HEAD.length()) {
                read(text.substring(0, length), 0);
                continue;
            }
            int place = length;
            for (String word : words) {
                int at = text.indexOf(word);
                place = length > at && length < at + word.length() ? at : place;
            }
            faulty(text.substring(0, length), place, 1);
            dueFault(text.substring(0, length) + " \n", place == length ? length + 2 : place, 1);
        }
    }

    private static void beach() {
        says(7, "The tape, empty then, is read: how many GUESTS there are.");
        LastSun x = Scenes.after(RICH);
        due(x, Scenes.UNREAD.length(), "count", 7);
        due(x, 1, "beach");
        due(x, 0, "count", 7);
        due(x, 4, "kind", 0);
        due(x, -1000100, "beach");
        due(x, 4, "kind", 0);
        due(x, 1, "count", 1);
        read(HEAD + LONE.repeat(4), 4);
        read(HEAD, 0);
    }

    private static void beachRefused() {
        says(7, "-1000100 less the place of a FAULT: all stays.");
        faulty("", 0, 1);
        faulty("x", 0, 1);
        faulty(" x", 1, 1);
        faulty(" ".repeat(399) + "x", 399, 1);
        faulty(" ".repeat(400), 400, 1);
        faulty("law 0 0;sun 30 30 30 30 30 30;guest clan 20 200 1;guest clan 20 200 1;guest clan 20 200 1;x", 90, 1);
        LastSun x = new LastSun();
        Sun.feed(x, HEAD + LONE + "x");
        due(x, -1000100 - 42, "beach");
        due(x, STATE, "price", 0);
        due(x, STATE, "image", 0);
        due(x, 0, "count", 1);
    }

    private static void fault() {
        says(8, "The number of the latest FAULT; 0 before one.");
        LastSun x = new LastSun();
        due(x, 0, "fault");
        Sun.feed(x, HEAD);
        due(x, 0, "beach");
        due(x, 0, "fault");
        String[] texts = {"law 3", "x", HEAD + LONE.repeat(5), HEAD, "law 1 99", HEAD + LONE, ""};
        int[] faults = {2, 1, 3, 3, 2, 2, 1};
        for (int i = 0; i < texts.length; i++) {
            Sun.feed(x, texts[i]);
            x.beach();
            due(x, faults[i], "fault");
        }
        quiet(RICH, 2, "", "fault");
    }
}
