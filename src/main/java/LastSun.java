/**
 * A beach whose heat has a price: who stays, who leaves, who pays for the sun.
 * Capital words in comments are the terms of the document.
 */
public final class LastSun {
    public static final int NONE = -1000000, BAD = -1000001, STATE = -1000002, FULL = -1000003;

    private static final int FINDINGS = -1000010, FAULTS = -1000100;
    private static final int NULL = 1, PLACE = 2, KIND = 3, SIZE = 4, STORE = 5;
    private static final int ROWS = 8, LANES = 3, ITEMS = 40;
    private static final int GUESTS = 4, HOURS = 6, SPLITS = 3, IMAGES = 2;
    private static final int LAST_DAY = 999, MOST_GIFT = 999, MOST_MONEY = 9999, MOST_SUNSETS = 60;
    private static final int ANY_NUMBER = 2147483647;
    private static final int ANYBODY = 0, LONE = 1, AUNT = 2, CHILD = 3, BAND = 4, CLAN = 5;

    private final Row[] rows = new Row[ROWS];
    private final Beach[] images = new Beach[IMAGES];
    private final Beach beach = new Beach();
    private final Beach draft = new Beach();
    private final Tape tape = new Tape();
    private final Past past = new Past();
    private final Foretold foretold = new Foretold();
    private final Day day = foretold.day;
    private final Asks asks = new Asks();
    private int status;

    public LastSun() {
        for (int r = 0; r < ROWS; r++) {
            rows[r] = new Row();
        }
        for (int k = 0; k < IMAGES; k++) {
            images[k] = new Beach();
        }
    }

    // ---- rows

    public int row(int row, int lane, int n) {
        if (!isRow(row) || lane < 0 || lane >= LANES || n > ITEMS) {
            return BAD;
        }
        if (n < 0) {
            return find(SIZE);
        }
        rows[row].make(lane, n);
        return answer(n);
    }

    public int set(int row, int i, int v) {
        if (!isRow(row)) {
            return BAD;
        }
        Row to = rows[row];
        if (to.isMissing()) {
            return find(NULL);
        }
        if (!to.hasPlaces(i, 1)) {
            return find(PLACE);
        }
        return answer(to.put(i, v));
    }

    public int copy(int a, int i, int b, int j, int n) {
        if (!isRow(a) || !isRow(b)) {
            return BAD;
        }
        Row from = rows[a];
        Row to = rows[b];
        if (from.isMissing() || to.isMissing()) {
            return find(NULL);
        }
        if (from.lane != to.lane) {
            return find(STORE);
        }
        if (!from.hasPlaces(i, n) || !to.hasPlaces(j, n)) {
            return find(PLACE);
        }
        System.arraycopy(from.items, i, to.items, j, n);
        return answer(n);
    }

    public int drop(int row) {
        if (!isRow(row)) {
            return BAD;
        }
        if (rows[row].isMissing()) {
            return find(NULL);
        }
        int had = rows[row].size;
        rows[row].lose();
        return answer(had);
    }

    // ---- beaches, acts

    public int feed(long w, int n) {
        if (n < 1 || n > 8) {
            return BAD;
        }
        if (!tape.hasRoomFor(n)) {
            return FULL;
        }
        tape.append(w, n);
        return tape.length;
    }

    public int beach() {
        if (!tape.readBeach(draft)) {
            return FAULTS - tape.from;
        }
        beach.become(draft);
        past.forget();
        return beach.guests;
    }

    public int fault() {
        return tape.fault;
    }

    public int hour() {
        if (!beach.stands) {
            return STATE;
        }
        if (beach.hours >= HOURS) {
            return FULL;
        }
        past.keep(beach);
        int due = beach.there == 0 ? 0 : beach.priceOf(beach.hours);
        beach.hours++;
        return due;
    }

    public int leave(int guest) {
        if (!beach.has(guest)) {
            return BAD;
        }
        if (!isIn(guest, beach.there)) {
            return STATE;
        }
        past.keep(beach);
        beach.there = beach.there & ~(1 << guest);
        beach.stays[guest] = beach.hours;
        return beach.hours;
    }

    public int cloud(int hour) {
        if (!beach.stands) {
            return STATE;
        }
        if (!isHour(hour)) {
            return BAD;
        }
        if (isIn(hour, beach.clouds) || hour < beach.hours) {
            return STATE;
        }
        past.keep(beach);
        beach.clouds = beach.clouds | 1 << hour;
        return beach.priceOf(hour);
    }

    public int shade(int guest, int is) {
        if (!beach.has(guest) || !isOneOf(is, 2)) {
            return BAD;
        }
        past.keep(beach);
        int was = bit(guest, beach.shaded);
        beach.shaded = beach.shaded & ~(1 << guest) | is << guest;
        return was;
    }

    public int gift(int guest, int n) {
        if (!beach.has(guest) || n < 1 || n > MOST_GIFT) {
            return BAD;
        }
        int less = Math.min(n, beach.debts[guest]);
        int purse = beach.purses[guest] + n - less;
        if (purse > MOST_MONEY) {
            return FULL;
        }
        past.keep(beach);
        beach.debts[guest] -= less;
        beach.purses[guest] = purse;
        return beach.debts[guest];
    }

    public int sunset() {
        if (!beach.stands || beach.hours < HOURS) {
            return STATE;
        }
        if (beach.days >= LAST_DAY) {
            return FULL;
        }
        past.keep(beach);
        day.open(beach);
        for (int g = 0; g < beach.guests; g++) {
            beach.charge(g, day.pay(g));
        }
        beach.days++;
        beach.dawn();
        return day.sum();
    }

    public int undo() {
        if (past.acts == 0) {
            return STATE;
        }
        past.undoInto(beach);
        return past.acts;
    }

    public int guest(int guest, int what) {
        if (!beach.has(guest)) {
            return BAD;
        }
        switch (what) {
            case 0: return beach.warmths[guest];
            case 1: return beach.purses[guest];
            case 2: return beach.burns[guest];
            case 3: return bit(guest, beach.there);
            case 4: return beach.hoursOf(guest);
            case 5: return bit(guest, beach.shaded);
            case 6: return beach.debts[guest];
            default: return BAD;
        }
    }

    public int price(int hour) {
        if (!beach.stands) {
            return STATE;
        }
        return isHour(hour) ? beach.priceOf(hour) : BAD;
    }

    // ---- foretold

    public int worth(int row, int guest, int what) {
        int refusal = hear(row, beach.has(guest) && isOneOf(what, 3));
        if (refusal != 0) {
            return refusal;
        }
        switch (what) {
            case 0: return day.worthOf(guest);
            case 1: return day.pay(guest);
            default: return day.share(guest);
        }
    }

    public int best(int row, int guest) {
        int refusal = hear(row, beach.has(guest));
        return refusal != 0 ? refusal : foretold.bestOf(guest);
    }

    public int rounds(int row, int guest) {
        int refusal = hear(row, guest == -1 || beach.has(guest));
        if (refusal != 0) {
            return refusal;
        }
        int turns = foretold.turns();
        return guest == -1 ? turns : day.stays[guest];
    }

    public int rests(int k) {
        if (!beach.stands) {
            return STATE;
        }
        if (k != -1 && !beach.has(k)) {
            return BAD;
        }
        day.open(beach);
        int many = foretold.countRests();
        return k == -1 ? many : foretold.common[k];
    }

    public int pact(int row, int a, int b, int what) {
        int refusal = hear(row, beach.has(a) && beach.has(b) && a != b && isOneOf(what, 2));
        if (refusal != 0) {
            return refusal;
        }
        int together = foretold.agree(a, b);
        if (together == NONE || what == 0) {
            return together;
        }
        return foretold.isContent(a) && foretold.isContent(b) ? 1 : 0;
    }

    public int alone(int guest, int c, int what) {
        if (!beach.stands) {
            return STATE;
        }
        if (!beach.has(guest) || c < 0 || c > Foretold.ODDS || !isOneOf(what, 2)) {
            return BAD;
        }
        day.open(beach);
        long above = foretold.meanAlone(beach, guest, c);
        long common = Foretold.commonDivisor(above, Foretold.ALL_ODDS);
        return (int) ((what == 0 ? above : Foretold.ALL_ODDS) / common);
    }

    public int explained(int row, int guest) {
        int refusal = look(row, guest == -1 || beach.has(guest), ANY_NUMBER);
        if (refusal != 0) {
            return refusal;
        }
        day.open(beach);
        int many = foretold.explain(rows[row].items);
        return guest == -1 ? many : foretold.common[guest];
    }

    public int laws(int row, int what) {
        int refusal = hear(row, isOneOf(what, 2));
        if (refusal != 0) {
            return refusal;
        }
        return what == 0 ? foretold.fairestSplit() : foretold.restingSplits();
    }

    public int owner(int row, int what) {
        int refusal = hear(row, isOneOf(what, 2));
        if (refusal != 0) {
            return refusal;
        }
        int price = foretold.ownersPrice();
        return what == 0 ? price : foretold.ownersSum;
    }

    public int owes(int guest, int n) {
        if (!beach.has(guest) || n < 0 || n > MOST_SUNSETS) {
            return BAD;
        }
        int debt = beach.debts[guest];
        for (int s = 0; s < n; s++) {
            debt = Beach.grown(debt);
        }
        return debt;
    }

    public int image(int k) {
        if (!isOneOf(k, IMAGES)) {
            return BAD;
        }
        if (!beach.stands) {
            return STATE;
        }
        images[k].become(beach);
        return 1;
    }

    public int restore(int k) {
        if (!isOneOf(k, IMAGES)) {
            return BAD;
        }
        if (!images[k].stands) {
            return STATE;
        }
        beach.become(images[k]);
        past.forget();
        return 1;
    }

    // ---- asked

    public int kind(int guest) {
        return beach.has(guest) ? beach.kinds[guest] : BAD;
    }

    public int as(int guest, int kind) {
        if (!beach.has(guest) || kind < ANYBODY || kind > CLAN) {
            return BAD;
        }
        if (!Asks.isKindOf(beach.kinds[guest], kind)) {
            return find(KIND);
        }
        return answer(guest);
    }

    public int ask(int guest, int what) {
        if (!beach.has(guest) || !isOneOf(what, 2)) {
            return BAD;
        }
        return asks.begin(beach, guest, what);
    }

    public int trace(int i) {
        return isOneOf(i, asks.length) ? asks.numbers[i] : NONE;
    }

    public int count(int what) {
        switch (what) {
            case 0: return countRows();
            case 1: return beach.guests;
            case 2: return beach.hours;
            case 3: return beach.days;
            case 4: return past.acts;
            case 5: return Integer.bitCount(beach.there);
            case 6: return beach.debtOfAll();
            case 7: return tape.length;
            default: return BAD;
        }
    }

    public int status() {
        return status;
    }

    // ---- what the calls share

    private int find(int finding) {
        status = finding;
        return FINDINGS - finding;
    }

    private int answer(int it) {
        status = 0;
        return it;
    }

    /** Refuses a ROW that cannot tell a number from 0 to most of each GUEST; 0 if it can. */
    private int look(int row, boolean isAsked, int most) {
        if (!beach.stands) {
            return STATE;
        }
        if (!isAsked || !isRow(row)) {
            return BAD;
        }
        Row told = rows[row];
        if (told.isMissing()) {
            return find(NULL);
        }
        if (told.size < beach.guests) {
            return find(PLACE);
        }
        for (int g = 0; g < beach.guests; g++) {
            if (told.items[g] < 0 || told.items[g] > most) {
                return BAD;
            }
        }
        return answer(0);
    }

    /** Opens a DAY by the HOURS that a ROW tells; the refusal if it cannot, else 0. */
    private int hear(int row, boolean isAsked) {
        int refusal = look(row, isAsked, HOURS);
        if (refusal == 0) {
            day.open(beach);
            System.arraycopy(rows[row].items, 0, day.stays, 0, day.guests);
        }
        return refusal;
    }

    private int countRows() {
        int many = 0;
        for (int r = 0; r < ROWS; r++) {
            if (!rows[r].isMissing()) {
                many++;
            }
        }
        return many;
    }

    private static boolean isRow(int row) {
        return isOneOf(row, ROWS);
    }

    private static boolean isHour(int hour) {
        return isOneOf(hour, HOURS);
    }

    private static boolean isOneOf(int i, int many) {
        return i >= 0 && i < many;
    }

    private static boolean isIn(int i, int bits) {
        return bit(i, bits) == 1;
    }

    private static int bit(int i, int bits) {
        return bits >> i & 1;
    }

    /** A ROW; its items are made once and used again, for all ROWS of a run live in one room. */
    private static final class Row {
        static final int MISSING = -1;

        final int[] items = new int[ITEMS];
        int lane = MISSING;
        int size;

        boolean isMissing() {
            return lane == MISSING;
        }

        void make(int newLane, int n) {
            lane = newLane;
            size = n;
            for (int i = 0; i < n; i++) {
                items[i] = 0;
            }
        }

        void lose() {
            lane = MISSING;
            size = 0;
        }

        boolean hasPlaces(int i, int n) {
            return i >= 0 && n >= 0 && i <= size && n <= size - i;
        }

        int put(int i, int v) {
            if (lane == 0) {
                items[i] = (byte) v;
            } else if (lane == 1) {
                items[i] = (short) v;
            } else {
                items[i] = v;
            }
            return items[i];
        }
    }

    /** THE TAPE, and how a BEACH is read from it, one TOKEN ahead. */
    private static final class Tape {
        static final int BYTES = 400, FIGURES = 3, MOST_PRICE = 30;
        static final int NO_TOKEN = 0, NAME = 1, NUMBER = 2, SIGN = 3, END = 4;
        static final int MISPLACED = 1, OUT_OF_RANGE = 2, NO_ROOM = 3;

        final byte[] bytes = new byte[BYTES];
        int length;
        int token;
        int from;
        int to;
        int value;
        int fault;

        boolean hasRoomFor(int n) {
            return n <= BYTES - length;
        }

        void append(long w, int n) {
            for (int b = n - 1; b >= 0; b--) {
                bytes[length] = (byte) (w >> 8 * b);
                length++;
            }
        }

        /** Where this answers false, the FAULT is told, and its place is that of the TOKEN at hand. */
        boolean readBeach(Beach into) {
            to = 0;
            advance();
            into.clear();
            boolean isRead = readLaw(into) && readSun(into) && readGuests(into);
            into.stands = isRead;
            into.dawn();
            length = 0;
            return isRead;
        }

        private boolean readLaw(Beach into) {
            if (!takeWord("law") || !takeNumber(0, SPLITS - 1)) {
                return false;
            }
            into.split = value;
            if (!takeNumber(0, 9)) {
                return false;
            }
            into.fee = value;
            return takeSign();
        }

        private boolean readSun(Beach into) {
            if (!takeWord("sun")) {
                return false;
            }
            for (int h = 0; h < HOURS; h++) {
                if (!takeNumber(0, MOST_PRICE)) {
                    return false;
                }
                into.prices[h] = value;
            }
            return takeSign();
        }

        private boolean readGuests(Beach into) {
            for (int g = 0; g < GUESTS && token != END; g++) {
                if (!readGuest(into, g)) {
                    return false;
                }
                into.guests = g + 1;
            }
            if (token == END) {
                return true;
            }
            return fail(isWord("guest") ? NO_ROOM : MISPLACED);
        }

        private boolean readGuest(Beach into, int g) {
            if (!takeWord("guest") || !takeSort()) {
                return false;
            }
            into.kinds[g] = value;
            if (!takeNumber(0, 20)) {
                return false;
            }
            into.warmths[g] = value;
            if (!takeNumber(0, 200)) {
                return false;
            }
            into.purses[g] = value;
            if (!takeNumber(1, HOURS)) {
                return false;
            }
            into.burns[g] = value;
            into.debts[g] = 0;
            return takeSign();
        }

        private boolean takeWord(String word) {
            if (!isWord(word)) {
                return fail(MISPLACED);
            }
            advance();
            return true;
        }

        private boolean takeSort() {
            for (int kind = LONE; kind <= CLAN; kind++) {
                if (isWord(sortOf(kind))) {
                    value = kind;
                    advance();
                    return true;
                }
            }
            return fail(MISPLACED);
        }

        private boolean takeNumber(int least, int most) {
            if (token != NUMBER) {
                return fail(MISPLACED);
            }
            int number = figuresRead();
            if (number < least || number > most) {
                return fail(OUT_OF_RANGE);
            }
            value = number;
            advance();
            return true;
        }

        private boolean takeSign() {
            if (token != SIGN) {
                return fail(MISPLACED);
            }
            advance();
            return true;
        }

        private boolean fail(int number) {
            fault = number;
            return false;
        }

        private boolean isWord(String word) {
            if (token != NAME || word.length() != to - from) {
                return false;
            }
            for (int i = 0; i < word.length(); i++) {
                if (word.charAt(i) != bytes[from + i]) {
                    return false;
                }
            }
            return true;
        }

        private int figuresRead() {
            int number = 0;
            for (int i = from; i < to; i++) {
                number = 10 * number + bytes[i] - '0';
            }
            return number;
        }

        private void advance() {
            from = to;
            while (from < length && (bytes[from] == ' ' || bytes[from] == '\n')) {
                from++;
            }
            to = from;
            if (from >= length) {
                token = END;
            } else if (isBetween(from, 'a', 'z')) {
                token = NAME;
                pass('a', 'z');
            } else if (isBetween(from, '0', '9')) {
                pass('0', '9');
                token = to - from <= FIGURES ? NUMBER : NO_TOKEN;
            } else {
                token = bytes[from] == ';' ? SIGN : NO_TOKEN;
                to = from + 1;
            }
        }

        private void pass(char least, char most) {
            while (to < length && isBetween(to, least, most)) {
                to++;
            }
        }

        private boolean isBetween(int at, char least, char most) {
            return bytes[at] >= least && bytes[at] <= most;
        }

        private static String sortOf(int kind) {
            switch (kind) {
                case LONE: return "lone";
                case AUNT: return "aunt";
                case CHILD: return "child";
                case BAND: return "band";
                default: return "clan";
            }
        }
    }

    /** A BEACH as it is now; ACTS and IMAGES are kept as whole copies of it. */
    private static final class Beach {
        final int[] prices = new int[HOURS];
        final int[] kinds = new int[GUESTS];
        final int[] warmths = new int[GUESTS];
        final int[] burns = new int[GUESTS];
        final int[] purses = new int[GUESTS];
        final int[] debts = new int[GUESTS];
        /** HOURS of those who have left; of others it tells nothing. */
        final int[] stays = new int[GUESTS];
        boolean stands;
        int split;
        int fee;
        int guests;
        int hours;
        int days;
        int there;
        int shaded;
        int clouds;

        void become(Beach other) {
            System.arraycopy(other.prices, 0, prices, 0, HOURS);
            System.arraycopy(other.kinds, 0, kinds, 0, GUESTS);
            System.arraycopy(other.warmths, 0, warmths, 0, GUESTS);
            System.arraycopy(other.burns, 0, burns, 0, GUESTS);
            System.arraycopy(other.purses, 0, purses, 0, GUESTS);
            System.arraycopy(other.debts, 0, debts, 0, GUESTS);
            System.arraycopy(other.stays, 0, stays, 0, GUESTS);
            stands = other.stands;
            split = other.split;
            fee = other.fee;
            guests = other.guests;
            hours = other.hours;
            days = other.days;
            there = other.there;
            shaded = other.shaded;
            clouds = other.clouds;
        }

        void clear() {
            stands = false;
            guests = 0;
            days = 0;
            shaded = 0;
        }

        void dawn() {
            hours = 0;
            clouds = 0;
            there = (1 << guests) - 1;
        }

        boolean has(int guest) {
            return isOneOf(guest, guests);
        }

        int priceOf(int hour) {
            return isIn(hour, clouds) ? prices[hour] / 2 : prices[hour];
        }

        int hoursOf(int guest) {
            return isIn(guest, there) ? hours : stays[guest];
        }

        int debtOfAll() {
            int all = 0;
            for (int g = 0; g < guests; g++) {
                all += debts[g];
            }
            return all;
        }

        void charge(int guest, int pay) {
            int paid = Math.min(pay, purses[guest]);
            purses[guest] -= paid;
            debts[guest] = Math.min(MOST_MONEY, grown(debts[guest]) + pay - paid);
        }

        static int grown(int debt) {
            return Math.min(MOST_MONEY, debt + debt / 10);
        }

        /** JOY of a GUEST as if nobody else were there. */
        int joyAlone(int guest, int hour) {
            int joy = warmths[guest];
            if (isIn(guest, shaded)) {
                joy = joy / 2;
            } else if (hour >= burns[guest]) {
                joy = -joy;
            }
            return kinds[guest] == CHILD && hour <= 2 ? 2 * joy : joy;
        }
    }

    /** The latest ACTS, a ring of BEACHES as they were ahead of them. */
    private static final class Past {
        static final int MOST = 24;

        final Beach[] kept = new Beach[MOST];
        int next;
        int acts;

        Past() {
            for (int i = 0; i < MOST; i++) {
                kept[i] = new Beach();
            }
        }

        void keep(Beach beach) {
            kept[next].become(beach);
            next = (next + 1) % MOST;
            acts = Math.min(MOST, acts + 1);
        }

        void undoInto(Beach beach) {
            next = (next + MOST - 1) % MOST;
            acts--;
            beach.become(kept[next]);
        }

        void forget() {
            acts = 0;
        }
    }

    /** A DAY by HOURS of each GUEST: what it costs, and what it is worth. */
    private static final class Day {
        final int[] prices = new int[HOURS];
        final int[] heads = new int[GUESTS];
        final int[] fees = new int[GUESTS];
        /** How much JOY one more GUEST beside it gives. */
        final int[] company = new int[GUESTS];
        final int[] joys = new int[GUESTS * HOURS];
        final int[] stays = new int[GUESTS];
        int guests;
        int split;

        void open(Beach beach) {
            guests = beach.guests;
            split = beach.split;
            for (int h = 0; h < HOURS; h++) {
                prices[h] = beach.priceOf(h);
            }
            for (int g = 0; g < guests; g++) {
                int kind = beach.kinds[g];
                heads[g] = kind == CLAN ? 2 : 1;
                fees[g] = isIn(g, beach.shaded) ? beach.fee : 0;
                company[g] = kind == AUNT ? 1 : kind == BAND || kind == CLAN ? -1 : 0;
                stays[g] = beach.hoursOf(g);
                for (int h = 0; h < HOURS; h++) {
                    joys[g * HOURS + h] = beach.joyAlone(g, h);
                }
            }
        }

        int worthOf(int guest) {
            int joy = 0;
            for (int h = 0; h < stays[guest]; h++) {
                joy += joyIn(guest, h);
            }
            return joy - pay(guest);
        }

        int joyIn(int guest, int hour) {
            int others = 0;
            for (int g = 0; g < guests; g++) {
                if (g != guest && stays[g] > hour) {
                    others++;
                }
            }
            return joys[guest * HOURS + hour] + others * company[guest];
        }

        int pay(int guest) {
            return share(guest) + fees[guest] * stays[guest];
        }

        int share(int guest) {
            int longest = longest();
            switch (split) {
                case 0: return alike(bill(longest), longest, guest);
                case 1: return byWeight(bill(longest), longest, guest);
                default: return byHours(guest);
            }
        }

        private int byWeight(int sum, int longest, int guest) {
            int all = 0;
            for (int g = 0; g < guests; g++) {
                all += stays[g] * heads[g];
            }
            if (all == 0) {
                return 0;
            }
            int first = NONE;
            int left = sum;
            for (int g = 0; g < guests; g++) {
                left -= sum * stays[g] * heads[g] / all;
                if (first == NONE && stays[g] == longest) {
                    first = g;
                }
            }
            return sum * stays[guest] * heads[guest] / all + (guest == first ? left : 0);
        }

        private int byHours(int guest) {
            int share = 0;
            for (int h = 0; h < stays[guest]; h++) {
                share += alike(prices[h], h + 1, guest);
            }
            return share;
        }

        /** What a GUEST pays of a cost that the HEADS bear who were there in so many HOURS or more. */
        private int alike(int cost, int least, int guest) {
            int all = 0;
            int ahead = 0;
            for (int g = 0; g < guests; g++) {
                if (stays[g] >= least) {
                    all += heads[g];
                    ahead += g < guest ? heads[g] : 0;
                }
            }
            if (all == 0 || stays[guest] < least) {
                return 0;
            }
            int mine = heads[guest];
            int over = cost % all - ahead;
            int more = over < 0 ? 0 : over > mine ? mine : over;
            return cost / all * mine + more;
        }

        private int longest() {
            int longest = 0;
            for (int g = 0; g < guests; g++) {
                longest = stays[g] > longest ? stays[g] : longest;
            }
            return longest;
        }

        private int bill(int longest) {
            int sum = 0;
            for (int h = 0; h < longest; h++) {
                sum += prices[h];
            }
            return sum;
        }

        int sum() {
            return bill(longest());
        }
    }

    /** What is FORETOLD of the DAY that is open; it may leave the DAY by other HOURS, prices or SPLITS. */
    private static final class Foretold {
        static final int CHOICES = HOURS + 1, MOST_ROUNDS = 20;
        static final int ODDS = 10, ALL_ODDS = 1000000;

        final Day day = new Day();
        final int[] worths = new int[CHOICES];
        final int[] told = new int[GUESTS];
        /** HOURS of each GUEST that a search has found; NONE where it found none. */
        final int[] common = new int[GUESTS];
        int ownersSum;

        /** BEST; it leaves in worths what each number of its own HOURS were worth to it. */
        int bestOf(int guest) {
            int stay = day.stays[guest];
            int best = 0;
            int joy = 0;
            for (int n = 0; n < CHOICES; n++) {
                day.stays[guest] = n;
                worths[n] = joy - day.share(guest) - n * day.fees[guest];
                best = worths[n] > worths[best] ? n : best;
                joy += n < HOURS ? day.joyIn(guest, n) : 0;
            }
            day.stays[guest] = stay;
            return best;
        }

        boolean isContent(int guest) {
            int best = bestOf(guest);
            return worths[day.stays[guest]] == worths[best];
        }

        private boolean isRest() {
            for (int g = 0; g < day.guests; g++) {
                if (!isContent(g)) {
                    return false;
                }
            }
            return true;
        }

        int turns() {
            for (int round = 1; round <= MOST_ROUNDS; round++) {
                boolean isOver = true;
                for (int g = 0; g < day.guests; g++) {
                    int best = bestOf(g);
                    isOver = isOver && best == day.stays[g];
                    day.stays[g] = best;
                }
                if (isOver) {
                    return round;
                }
            }
            return NONE;
        }

        int countRests() {
            forgetCommon();
            int many = 0;
            int all = countChoices();
            for (int number = 0; number < all; number++) {
                choose(number);
                if (isRest()) {
                    if (many == 0) {
                        System.arraycopy(day.stays, 0, common, 0, day.guests);
                    }
                    many++;
                }
            }
            return many;
        }

        int explain(int[] pays) {
            forgetCommon();
            int many = 0;
            int all = countChoices();
            for (int number = 0; number < all; number++) {
                choose(number);
                if (isPaid(pays)) {
                    meetCommon(many == 0);
                    many++;
                }
            }
            return many;
        }

        private boolean isPaid(int[] pays) {
            for (int g = 0; g < day.guests; g++) {
                if (day.pay(g) != pays[g]) {
                    return false;
                }
            }
            return true;
        }

        private void forgetCommon() {
            for (int g = 0; g < GUESTS; g++) {
                common[g] = NONE;
            }
        }

        private void meetCommon(boolean isFirst) {
            for (int g = 0; g < day.guests; g++) {
                if (isFirst) {
                    common[g] = day.stays[g];
                } else if (common[g] != day.stays[g]) {
                    common[g] = NONE;
                }
            }
        }

        private int countChoices() {
            int all = 1;
            for (int g = 0; g < day.guests; g++) {
                all *= CHOICES;
            }
            return all;
        }

        /** Rows of HOURS by number, GUEST 0 as the highest figure, so that they come by GUESTS. */
        private void choose(int number) {
            int rest = number;
            for (int g = day.guests - 1; g >= 0; g--) {
                day.stays[g] = rest % CHOICES;
                rest /= CHOICES;
            }
        }

        /** The HOURS of a PACT, by which the DAY is left; NONE. */
        int agree(int a, int b) {
            int worthOfA = day.worthOf(a);
            int worthOfB = day.worthOf(b);
            for (int n = 0; n < CHOICES; n++) {
                day.stays[a] = n;
                day.stays[b] = n;
                if (day.worthOf(a) > worthOfA && day.worthOf(b) > worthOfB) {
                    return n;
                }
            }
            return NONE;
        }

        /** How much above ALL_ODDS the mean is; each HOUR makes the part below ODDS times as great. */
        long meanAlone(Beach beach, int guest, int c) {
            long mean = 0;
            long scale = 1;
            for (int h = HOURS - 1; h >= 0; h--) {
                int gain = beach.joyAlone(guest, h) - day.fees[guest];
                int price = beach.prices[h];
                long byCloud = Math.max(0, mean + scale * (gain - price / 2));
                long bySun = Math.max(0, mean + scale * (gain - price));
                mean = c * byCloud + (ODDS - c) * bySun;
                scale *= ODDS;
            }
            return mean;
        }

        /** At least 1, so that it may divide. */
        static long commonDivisor(long a, long b) {
            long more = a;
            long less = b;
            for (int step = 0; step < 100 && less != 0; step++) {
                long left = more % less;
                more = less;
                less = left;
            }
            return Math.max(1, more);
        }

        int fairestSplit() {
            int fairest = 0;
            int least = ANY_NUMBER;
            for (int split = 0; split < SPLITS; split++) {
                day.split = split;
                int gap = gapOfWorths();
                if (gap < least) {
                    least = gap;
                    fairest = split;
                }
            }
            return fairest;
        }

        private int gapOfWorths() {
            if (day.guests == 0) {
                return 0;
            }
            int least = day.worthOf(0);
            int most = least;
            for (int g = 1; g < day.guests; g++) {
                int worth = day.worthOf(g);
                least = Math.min(least, worth);
                most = Math.max(most, worth);
            }
            return most - least;
        }

        int restingSplits() {
            int splits = 0;
            for (int split = 0; split < SPLITS; split++) {
                day.split = split;
                if (isRest()) {
                    splits |= 1 << split;
                }
            }
            return splits;
        }

        int ownersPrice() {
            System.arraycopy(day.stays, 0, told, 0, GUESTS);
            int best = 0;
            ownersSum = 0;
            for (int price = 0; price <= Tape.MOST_PRICE; price++) {
                System.arraycopy(told, 0, day.stays, 0, GUESTS);
                for (int h = 0; h < HOURS; h++) {
                    day.prices[h] = price;
                }
                turns();
                int sum = day.sum();
                if (sum > ownersSum) {
                    ownersSum = sum;
                    best = price;
                }
            }
            return best;
        }
    }

    /** ASKS of GUESTS, and THE TRACE of the latest one. */
    private static final class Asks {
        static final int MOST = 16, DEEPEST = 20;
        /** The nearest KIND that each KIND is, too. */
        static final int[] ABOVE = {NONE, ANYBODY, LONE, LONE, ANYBODY, BAND};

        final int[] numbers = new int[MOST];
        int length;

        static boolean isKindOf(int kind, int asked) {
            int is = kind;
            for (int step = 0; step < ABOVE.length && is != NONE; step++) {
                if (is == asked) {
                    return true;
                }
                is = ABOVE[is];
            }
            return false;
        }

        int begin(Beach beach, int guest, int what) {
            length = 0;
            int kind = beach.kinds[guest];
            return what == 0 ? sizeAs(beach, guest, kind, 0) : markAs(beach, guest, kind, 0);
        }

        private int sizeAs(Beach beach, int guest, int kind, int depth) {
            if (depth > DEEPEST) {
                return 0;
            }
            switch (kind) {
                case LONE:
                    note(11);
                    int lent = sizeAs(beach, guest, ANYBODY, depth + 1);
                    return lent + markAs(beach, guest, beach.kinds[guest], depth + 1);
                case AUNT:
                    note(12);
                    return -sizeAs(beach, guest, LONE, depth + 1);
                case BAND:
                    note(13);
                    return sizeAs(beach, guest, ANYBODY, depth + 1) - 100;
                case CLAN:
                    note(14);
                    return 2 * sizeAs(beach, guest, BAND, depth + 1);
                case CHILD:
                    return sizeAs(beach, guest, LONE, depth + 1);
                default:
                    note(10);
                    return beach.purses[guest];
            }
        }

        private int markAs(Beach beach, int guest, int kind, int depth) {
            if (depth > DEEPEST) {
                return 0;
            }
            switch (kind) {
                case LONE:
                    note(21);
                    return markAs(beach, guest, ANYBODY, depth + 1) + beach.debts[guest];
                case AUNT:
                    note(24);
                    return 2 * markAs(beach, guest, LONE, depth + 1);
                case CHILD:
                    note(22);
                    return markAs(beach, guest, LONE, depth + 1) - 1000;
                case BAND:
                    note(23);
                    int lent = markAs(beach, guest, ANYBODY, depth + 1);
                    return lent - sizeAs(beach, guest, beach.kinds[guest], depth + 1);
                case CLAN:
                    return markAs(beach, guest, BAND, depth + 1);
                default:
                    note(20);
                    return guest;
            }
        }

        private void note(int body) {
            if (length < MOST) {
                numbers[length] = body;
                length++;
            }
        }
    }
}
