import java.math.BigInteger;
import java.util.ArrayDeque;
import java.util.ArrayList;
import java.util.Arrays;
import java.util.Collections;
import java.util.List;
import java.util.function.Predicate;
import java.util.regex.Matcher;
import java.util.regex.Pattern;

/**
 * The document told a second time, in the slowest and plainest way and with the whole Java library,
 * so that LastSun can be compared with it over many runs of calls (ModelTest).
 */
final class Model {
    static final int NONE = -1000000, BAD = -1000001, STATE = -1000002, FULL = -1000003;

    /** A KIND of GUEST; bodies 10 and 20 are lent by the interface, others are inherited or overridden. */
    interface Body {
        Guest self();
        Model model();

        default int size() {
            model().trace.add(10);
            return self().purse;
        }

        default int mark() {
            model().trace.add(20);
            return self().number;
        }
    }

    abstract static class Asked implements Body {
        Guest self;
        Model model;

        public Guest self() { return self; }
        public Model model() { return model; }
    }

    static class Lone extends Asked {
        public int size() {
            model.trace.add(11);
            int lent = super.size();
            return lent + mark();
        }

        public int mark() {
            model.trace.add(21);
            return super.mark() + self.debt;
        }
    }

    static class Aunt extends Lone {
        public int size() {
            model.trace.add(12);
            return -super.size();
        }

        public int mark() {
            model.trace.add(24);
            return super.mark() * 2;
        }
    }

    static class Child extends Lone {
        public int mark() {
            model.trace.add(22);
            return super.mark() - 1000;
        }
    }

    static class Band extends Asked {
        public int size() {
            model.trace.add(13);
            return super.size() - 100;
        }

        public int mark() {
            model.trace.add(23);
            int lent = super.mark();
            return lent - size();
        }
    }

    static class Clan extends Band {
        public int size() {
            model.trace.add(14);
            return super.size() * 2;
        }
    }

    static final class Guest implements Cloneable {
        int number, warmth, purse, burn, debt;
        String sort;
        boolean umbrella;
        boolean left;
        int leftAt;

        Guest copy() {
            try {
                return (Guest) clone();
            } catch (CloneNotSupportedException e) {
                throw new IllegalStateException(e);
            }
        }
    }

    static final class Place {
        int split, shade, hours, days;
        int[] told = new int[6];
        boolean[] cloudy = new boolean[6];
        List<Guest> guests = new ArrayList<>();

        Place copy() {
            Place p = new Place();
            p.split = split;
            p.shade = shade;
            p.hours = hours;
            p.days = days;
            p.told = told.clone();
            p.cloudy = cloudy.clone();
            for (Guest g : guests) {
                p.guests.add(g.copy());
            }
            return p;
        }

        int[] prices() {
            int[] prices = new int[6];
            for (int h = 0; h < 6; h++) {
                prices[h] = cloudy[h] ? told[h] / 2 : told[h];
            }
            return prices;
        }

        int[] hoursNow() {
            int[] now = new int[guests.size()];
            for (Guest g : guests) {
                now[g.number] = g.left ? g.leftAt : hours;
            }
            return now;
        }
    }

    final int[] lanes = new int[8];
    final List<List<Integer>> rows = new ArrayList<>(Collections.nCopies(8, null));
    final StringBuilder tape = new StringBuilder();
    final List<Integer> trace = new ArrayList<>();
    final ArrayDeque<Place> past = new ArrayDeque<>();
    final Place[] images = new Place[2];
    Place place;
    int fault;
    int status;

    // ---- rows

    int found(int number) {
        status = number;
        return -1000010 - number;
    }

    int good(int answer) {
        status = 0;
        return answer;
    }

    int row(int row, int lane, int n) {
        if (row < 0 || row > 7 || lane < 0 || lane > 2 || n > 40) return BAD;
        if (n < 0) return found(4);
        lanes[row] = lane;
        rows.set(row, new ArrayList<>(Collections.nCopies(n, 0)));
        return good(n);
    }

    int set(int row, int i, int v) {
        if (row < 0 || row > 7) return BAD;
        if (rows.get(row) == null) return found(1);
        if (i < 0 || i >= rows.get(row).size()) return found(2);
        int bits = lanes[row] == 0 ? 24 : lanes[row] == 1 ? 16 : 0;
        rows.get(row).set(i, v << bits >> bits);
        return good(v << bits >> bits);
    }

    int copy(int a, int i, int b, int j, int n) {
        if (a < 0 || a > 7 || b < 0 || b > 7) return BAD;
        if (rows.get(a) == null || rows.get(b) == null) return found(1);
        if (lanes[a] != lanes[b]) return found(5);
        if (i < 0 || j < 0 || n < 0) return found(2);
        if ((long) i + n > rows.get(a).size() || (long) j + n > rows.get(b).size()) return found(2);
        List<Integer> ahead = new ArrayList<>(rows.get(a).subList(i, i + n));
        for (int k = 0; k < n; k++) {
            rows.get(b).set(j + k, ahead.get(k));
        }
        return good(n);
    }

    int drop(int row) {
        if (row < 0 || row > 7) return BAD;
        if (rows.get(row) == null) return found(1);
        return good(rows.set(row, null).size());
    }

    // ---- beaches, acts

    int feed(long w, int n) {
        if (n < 1 || n > 8) return BAD;
        if (tape.length() + n > 400) return FULL;
        for (int k = n; k > 0; k--) {
            tape.append((char) (w >>> 8 * (k - 1) & 255));
        }
        return tape.length();
    }

    /** One TOKEN of a text: its place, and how it reads. */
    record Token(int place, String text) {
        boolean isNumber() {
            return text.matches("[0-9]{1,3}");
        }
    }

    /** What may stand next: words, or a NUMBER of a range. */
    record Slot(List<String> words, int least, int most) {
        int faultOf(Token t) {
            if (words != null) {
                return words.contains(t.text) ? 0 : 1;
            }
            if (!t.isNumber()) return 1;
            int v = Integer.parseInt(t.text);
            return v < least || v > most ? 2 : 0;
        }
    }

    static Slot word(String... words) {
        return new Slot(List.of(words), 0, 0);
    }

    static Slot number(int least, int most) {
        return new Slot(null, least, most);
    }

    static final List<Slot> HEAD = List.of(
        word("law"), number(0, 2), number(0, 9), word(";"), word("sun"), number(0, 30), number(0, 30),
        number(0, 30), number(0, 30), number(0, 30), number(0, 30), word(";"));
    static final List<Slot> GUEST = List.of(
        word("guest"), word("lone", "aunt", "child", "band", "clan"),
        number(0, 20), number(0, 200), number(1, 6), word(";"));

    static List<Token> tokens(String text) {
        List<Token> tokens = new ArrayList<>();
        Matcher m = Pattern.compile("[a-z]+|[0-9]+|[^ \\n]", Pattern.DOTALL).matcher(text);
        while (m.find()) {
            tokens.add(new Token(m.start(), m.group()));
        }
        tokens.add(new Token(text.length(), "<end>"));
        return tokens;
    }

    int beach() {
        List<Token> tokens = tokens(tape.toString());
        tape.setLength(0);
        int at = 0;
        List<Slot> slots = new ArrayList<>(HEAD);
        int guests = 0;
        for (int s = 0; ; s++, at++) {
            Token t = tokens.get(at);
            if (s == slots.size()) {
                if (t.text.equals("<end>")) break;
                if (t.text.equals("guest") && guests == 4) return faulty(t, 3);
                slots.addAll(GUEST);
                guests++;
            }
            int f = slots.get(s).faultOf(t);
            if (f != 0) return faulty(t, f);
        }
        place = settle(tokens, guests);
        past.clear();
        return guests;
    }

    int faulty(Token t, int number) {
        fault = number;
        return -1000100 - t.place;
    }

    static Place settle(List<Token> tokens, int guests) {
        Place p = new Place();
        p.split = Integer.parseInt(tokens.get(1).text);
        p.shade = Integer.parseInt(tokens.get(2).text);
        for (int h = 0; h < 6; h++) {
            p.told[h] = Integer.parseInt(tokens.get(5 + h).text);
        }
        for (int g = 0; g < guests; g++) {
            List<Token> part = tokens.subList(12 + 6 * g, 18 + 6 * g);
            Guest guest = new Guest();
            guest.number = g;
            guest.sort = part.get(1).text;
            guest.warmth = Integer.parseInt(part.get(2).text);
            guest.purse = Integer.parseInt(part.get(3).text);
            guest.burn = Integer.parseInt(part.get(4).text);
            p.guests.add(guest);
        }
        return p;
    }

    int fault() {
        return fault;
    }

    void keep() {
        past.addLast(place.copy());
        if (past.size() > 24) past.removeFirst();
    }

    int size() {
        return place == null ? 0 : place.guests.size();
    }

    boolean no(int guest) {
        return guest < 0 || guest >= size();
    }

    int hour() {
        if (place == null) return STATE;
        if (place.hours == 6) return FULL;
        keep();
        boolean nobody = place.guests.stream().allMatch(g -> g.left);
        int price = nobody ? 0 : place.prices()[place.hours];
        place.hours++;
        return price;
    }

    int leave(int guest) {
        if (no(guest)) return BAD;
        if (place.guests.get(guest).left) return STATE;
        keep();
        place.guests.get(guest).left = true;
        place.guests.get(guest).leftAt = place.hours;
        return place.hours;
    }

    int cloud(int hour) {
        if (place == null) return STATE;
        if (hour < 0 || hour > 5) return BAD;
        if (place.cloudy[hour] || hour < place.hours) return STATE;
        keep();
        place.cloudy[hour] = true;
        return place.prices()[hour];
    }

    int shade(int guest, int is) {
        if (no(guest) || is < 0 || is > 1) return BAD;
        keep();
        boolean was = place.guests.get(guest).umbrella;
        place.guests.get(guest).umbrella = is == 1;
        return was ? 1 : 0;
    }

    int gift(int guest, int n) {
        if (no(guest) || n < 1 || n > 999) return BAD;
        Guest g = place.guests.get(guest);
        int over = Math.max(0, n - g.debt);
        if (g.purse + over > 9999) return FULL;
        keep();
        g = place.guests.get(guest);
        g.debt = Math.max(0, g.debt - n);
        g.purse += over;
        return g.debt;
    }

    int sunset() {
        if (place == null || place.hours < 6) return STATE;
        if (place.days == 999) return FULL;
        keep();
        int[] hours = place.hoursNow();
        int[] shares = shares(hours, place.split, place.prices());
        int sum = sum(hours, place.prices());
        for (Guest g : place.guests) {
            g.debt += g.debt / 10;
            int pay = shares[g.number] + (g.umbrella ? place.shade * hours[g.number] : 0);
            while (pay > 0 && g.purse > 0) {
                pay--;
                g.purse--;
            }
            g.debt = Math.min(9999, g.debt + pay);
            g.left = false;
        }
        place.days++;
        place.hours = 0;
        place.cloudy = new boolean[6];
        return sum;
    }

    int undo() {
        if (past.isEmpty()) return STATE;
        place = past.removeLast();
        return past.size();
    }

    int guest(int guest, int what) {
        if (no(guest) || what < 0 || what > 6) return BAD;
        Guest g = place.guests.get(guest);
        int[] all = {g.warmth, g.purse, g.burn, g.left ? 0 : 1, place.hoursNow()[guest], g.umbrella ? 1 : 0, g.debt};
        return all[what];
    }

    int price(int hour) {
        if (place == null) return STATE;
        if (hour < 0 || hour > 5) return BAD;
        return place.prices()[hour];
    }

    // ---- a day

    static int sum(int[] hours, int[] prices) {
        int sum = 0;
        for (int h = 0; h < 6; h++) {
            for (int stay : hours) {
                if (stay > h) {
                    sum += prices[h];
                    break;
                }
            }
        }
        return sum;
    }

    /** HEADS, each told by the GUEST that it is of. */
    List<Integer> heads(int[] hours, int least) {
        List<Integer> heads = new ArrayList<>();
        for (Guest g : place.guests) {
            if (hours[g.number] >= least) {
                heads.add(g.number);
                if (g.sort.equals("clan")) heads.add(g.number);
            }
        }
        return heads;
    }

    /** Coin by coin around the HEADS. */
    static void deal(int cost, List<Integer> heads, int[] shares) {
        for (int coin = 0; coin < cost && !heads.isEmpty(); coin++) {
            shares[heads.get(coin % heads.size())]++;
        }
    }

    int[] shares(int[] hours, int split, int[] prices) {
        int[] shares = new int[hours.length];
        int longest = Arrays.stream(hours).max().orElse(0);
        if (longest == 0) return shares;
        int sum = sum(hours, prices);
        if (split == 0) deal(sum, heads(hours, longest), shares);
        if (split == 2) {
            for (int h = 0; h < longest; h++) {
                deal(prices[h], heads(hours, h + 1), shares);
            }
        }
        if (split == 1) {
            int all = 0;
            for (int head : heads(hours, 0)) {
                all += hours[head];
            }
            int left = sum;
            for (Guest g : place.guests) {
                int heads = g.sort.equals("clan") ? 2 : 1;
                shares[g.number] = sum * hours[g.number] * heads / all;
                left -= shares[g.number];
            }
            for (int g = 0; g < hours.length; g++) {
                if (hours[g] == longest) {
                    shares[g] += left;
                    break;
                }
            }
        }
        return shares;
    }

    int pay(int[] hours, int split, int[] prices, int g) {
        int umbrella = place.guests.get(g).umbrella ? place.shade * hours[g] : 0;
        return shares(hours, split, prices)[g] + umbrella;
    }

    int joy(int[] hours, int g, int h) {
        Guest guest = place.guests.get(g);
        int others = 0;
        for (int o = 0; o < hours.length; o++) {
            if (o != g && hours[o] > h) others++;
        }
        int joy = guest.umbrella ? guest.warmth / 2 : h >= guest.burn ? -guest.warmth : guest.warmth;
        return switch (guest.sort) {
            case "child" -> h <= 2 ? 2 * joy : joy;
            case "aunt" -> joy + others;
            case "band", "clan" -> joy - others;
            default -> joy;
        };
    }

    int worthOf(int[] hours, int split, int[] prices, int g) {
        int worth = -pay(hours, split, prices, g);
        for (int h = 0; h < hours[g]; h++) {
            worth += joy(hours, g, h);
        }
        return worth;
    }

    static int[] with(int[] hours, int g, int n) {
        int[] other = hours.clone();
        other[g] = n;
        return other;
    }

    int bestOf(int[] hours, int split, int[] prices, int g) {
        int best = 0;
        int most = Integer.MIN_VALUE;
        for (int n = 0; n <= 6; n++) {
            int worth = worthOf(with(hours, g, n), split, prices, g);
            if (worth > most) {
                most = worth;
                best = n;
            }
        }
        return best;
    }

    boolean wouldMove(int[] hours, int split, int g) {
        int now = worthOf(hours, split, place.prices(), g);
        for (int n = 0; n <= 6; n++) {
            if (worthOf(with(hours, g, n), split, place.prices(), g) > now) return true;
        }
        return false;
    }

    boolean rest(int[] hours, int split) {
        for (int g = 0; g < hours.length; g++) {
            if (wouldMove(hours, split, g)) return false;
        }
        return true;
    }

    /** Changes the hours that are given; the rounds. */
    int turns(int[] hours, int[] prices) {
        for (int round = 1; round <= 20; round++) {
            int[] ahead = hours.clone();
            for (int g = 0; g < hours.length; g++) {
                hours[g] = bestOf(hours, place.split, prices, g);
            }
            if (Arrays.equals(ahead, hours)) return round;
        }
        return NONE;
    }

    void all(int[] hours, int from, Predicate<int[]> fits, List<int[]> into) {
        if (from == hours.length) {
            if (fits.test(hours)) into.add(hours.clone());
            return;
        }
        for (int n = 0; n <= 6; n++) {
            hours[from] = n;
            all(hours, from + 1, fits, into);
        }
    }

    // ---- foretold

    int[] toldRow;

    int told(int row, boolean bad, int most) {
        if (place == null) return STATE;
        if (bad || row < 0 || row > 7) return BAD;
        if (rows.get(row) == null) return found(1);
        if (rows.get(row).size() < size()) return found(2);
        toldRow = rows.get(row).subList(0, size()).stream().mapToInt(i -> i).toArray();
        if (Arrays.stream(toldRow).anyMatch(i -> i < 0 || i > most)) return BAD;
        return good(0);
    }

    int worth(int row, int guest, int what) {
        int no = told(row, no(guest) || what < 0 || what > 2, 6);
        if (no != 0) return no;
        if (what == 0) return worthOf(toldRow, place.split, place.prices(), guest);
        if (what == 1) return pay(toldRow, place.split, place.prices(), guest);
        return shares(toldRow, place.split, place.prices())[guest];
    }

    int best(int row, int guest) {
        int no = told(row, no(guest), 6);
        return no != 0 ? no : bestOf(toldRow, place.split, place.prices(), guest);
    }

    int rounds(int row, int guest) {
        int no = told(row, guest != -1 && no(guest), 6);
        if (no != 0) return no;
        int rounds = turns(toldRow, place.prices());
        return guest == -1 ? rounds : toldRow[guest];
    }

    int rests(int k) {
        if (place == null) return STATE;
        if (k != -1 && no(k)) return BAD;
        List<int[]> rests = new ArrayList<>();
        all(new int[size()], 0, hours -> rest(hours, place.split), rests);
        if (k == -1) return rests.size();
        return rests.isEmpty() ? NONE : rests.get(0)[k];
    }

    int pact(int row, int a, int b, int what) {
        int no = told(row, no(a) || no(b) || a == b || what < 0 || what > 1, 6);
        if (no != 0) return no;
        int[] prices = place.prices();
        for (int n = 0; n <= 6; n++) {
            int[] both = with(with(toldRow, a, n), b, n);
            boolean isMore = true;
            for (int g : new int[] {a, b}) {
                isMore &= worthOf(both, place.split, prices, g) > worthOf(toldRow, place.split, prices, g);
            }
            if (isMore) {
                boolean holds = !wouldMove(both, place.split, a) && !wouldMove(both, place.split, b);
                return what == 0 ? n : holds ? 1 : 0;
            }
        }
        return NONE;
    }

    /** The mean, as a fraction of BigIntegers: above, below. */
    BigInteger[] mean(int guest, int c, int hour) {
        BigInteger zero = BigInteger.ZERO;
        BigInteger ten = BigInteger.TEN;
        if (hour == 6) return new BigInteger[] {zero, BigInteger.ONE};
        BigInteger[] next = mean(guest, c, hour + 1);
        Guest g = place.guests.get(guest);
        int[] alone = new int[size()];
        int gain = joy(alone, guest, hour) - (g.umbrella ? place.shade : 0);
        BigInteger above = zero;
        for (int cloud = 0; cloud <= 1; cloud++) {
            int price = cloud == 1 ? place.told[hour] / 2 : place.told[hour];
            BigInteger stay = next[0].add(next[1].multiply(BigInteger.valueOf(gain - price)));
            above = above.add(stay.max(zero).multiply(BigInteger.valueOf(cloud == 1 ? c : 10 - c)));
        }
        BigInteger below = next[1].multiply(ten);
        BigInteger by = above.gcd(below);
        return new BigInteger[] {above.divide(by), below.divide(by)};
    }

    int alone(int guest, int c, int what) {
        if (place == null) return STATE;
        if (no(guest) || c < 0 || c > 10 || what < 0 || what > 1) return BAD;
        return mean(guest, c, 0)[what].intValueExact();
    }

    int explained(int row, int guest) {
        int no = told(row, guest != -1 && no(guest), Integer.MAX_VALUE);
        if (no != 0) return no;
        List<int[]> fits = new ArrayList<>();
        all(new int[size()], 0, this::paysAsTold, fits);
        if (guest == -1) return fits.size();
        int[] seen = fits.stream().mapToInt(h -> h[guest]).distinct().toArray();
        return seen.length == 1 ? seen[0] : NONE;
    }

    boolean paysAsTold(int[] hours) {
        for (int g = 0; g < hours.length; g++) {
            if (pay(hours, place.split, place.prices(), g) != toldRow[g]) return false;
        }
        return true;
    }

    int laws(int row, int what) {
        int no = told(row, what < 0 || what > 1, 6);
        if (no != 0) return no;
        int fairest = 0;
        int least = Integer.MAX_VALUE;
        int bits = 0;
        for (int split = 0; split < 3; split++) {
            List<Integer> worths = new ArrayList<>();
            for (int g = 0; g < size(); g++) {
                worths.add(worthOf(toldRow, split, place.prices(), g));
            }
            int gap = worths.isEmpty() ? 0 : Collections.max(worths) - Collections.min(worths);
            if (gap < least) {
                least = gap;
                fairest = split;
            }
            if (rest(toldRow, split)) bits += 1 << split;
        }
        return what == 0 ? fairest : bits;
    }

    int owner(int row, int what) {
        int no = told(row, what < 0 || what > 1, 6);
        if (no != 0) return no;
        int[] sums = new int[31];
        for (int price = 0; price <= 30; price++) {
            int[] prices = new int[6];
            Arrays.fill(prices, price);
            int[] hours = toldRow.clone();
            turns(hours, prices);
            sums[price] = sum(hours, prices);
        }
        int most = Arrays.stream(sums).max().getAsInt();
        if (what == 1) return most;
        int price = 0;
        while (sums[price] != most) {
            price++;
        }
        return price;
    }

    int owes(int guest, int n) {
        if (no(guest) || n < 0 || n > 60) return BAD;
        int debt = place.guests.get(guest).debt;
        for (int s = 0; s < n; s++) {
            debt = Math.min(9999, debt + debt / 10);
        }
        return debt;
    }

    int image(int k) {
        if (k < 0 || k > 1) return BAD;
        if (place == null) return STATE;
        images[k] = place.copy();
        return 1;
    }

    int restore(int k) {
        if (k < 0 || k > 1) return BAD;
        if (images[k] == null) return STATE;
        place = images[k].copy();
        past.clear();
        return 1;
    }

    // ---- asked

    static final List<String> SORTS = List.of("", "lone", "aunt", "child", "band", "clan");

    Asked asked(int guest) {
        Guest g = place.guests.get(guest);
        Asked a = switch (g.sort) {
            case "lone" -> new Lone();
            case "aunt" -> new Aunt();
            case "child" -> new Child();
            case "band" -> new Band();
            default -> new Clan();
        };
        a.self = g;
        a.model = this;
        return a;
    }

    int kind(int guest) {
        return no(guest) ? BAD : SORTS.indexOf(place.guests.get(guest).sort);
    }

    int as(int guest, int kind) {
        if (no(guest) || kind < 0 || kind > 5) return BAD;
        List<Class<?>> kinds = List.of(Body.class, Lone.class, Aunt.class, Child.class, Band.class, Clan.class);
        return kinds.get(kind).isInstance(asked(guest)) ? good(guest) : found(3);
    }

    int ask(int guest, int what) {
        if (no(guest) || what < 0 || what > 1) return BAD;
        trace.clear();
        return what == 0 ? asked(guest).size() : asked(guest).mark();
    }

    int trace(int i) {
        return i < 0 || i >= Math.min(16, trace.size()) ? NONE : trace.get(i);
    }

    int count(int what) {
        if (what < 0 || what > 7) return BAD;
        if (what == 0) return (int) rows.stream().filter(r -> r != null).count();
        if (what == 4) return past.size();
        if (what == 7) return tape.length();
        if (place == null) return 0;
        int there = 0;
        int debts = 0;
        for (Guest g : place.guests) {
            there += g.left ? 0 : 1;
            debts += g.debt;
        }
        return new int[] {0, size(), place.hours, place.days, 0, there, debts}[what];
    }

    int status() {
        return status;
    }
}
