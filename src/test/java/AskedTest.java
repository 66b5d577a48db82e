/** Promises 30 to 35: kind, as, ask, trace, count, status. */
public final class AskedTest {
    private static final String HEAD = "law 0 0;sun 10 10 10 10 10 10;";

    public static void main(String[] args) {
        withoutBeach();
        kinds();
        asks();
        asksWithDebt();
        traces();
        counts();
        status();
        Sun.end("AskedTest");
    }

    private static void withoutBeach() {
        LastSun x = new LastSun();
        Sun.due("kind(0)", x.kind(0), Sun.BAD);
        Sun.due("as(0, 0)", x.as(0, 0), Sun.BAD);
        Sun.due("ask(0, 0)", x.ask(0, 0), Sun.BAD);
        Sun.due("trace(0)", x.trace(0), Sun.NONE);
        Sun.due("count(-1)", x.count(-1), Sun.BAD);
        Sun.due("count(8)", x.count(8), Sun.BAD);
    }

    /** Bits of the KINDS that each SORT is. */
    private static void kinds() {
        String[] sorts = {"lone", "aunt", "child", "band", "clan"};
        int[] kinds = {0b000011, 0b000111, 0b001011, 0b010001, 0b110001};
        for (int s = 0; s < 5; s++) {
            LastSun x = Sun.on(HEAD + "guest lone 1 1 1;guest " + sorts[s] + " 1 1 1;", 2);
            Sun.due("kind of " + sorts[s], x.kind(1), s + 1);
            for (int kind = 0; kind <= 5; kind++) {
                boolean is = (kinds[s] >> kind & 1) == 1;
                Sun.due(sorts[s] + " as " + kind, x.as(1, kind), is ? 1 : Sun.KIND);
                Sun.due("status()", x.status(), is ? 0 : 3);
            }
            Sun.due("as(1, 6)", x.as(1, 6), Sun.BAD);
            Sun.due("as(1, -1)", x.as(1, -1), Sun.BAD);
            Sun.due("as(2, 0)", x.as(2, 0), Sun.BAD);
            Sun.due("as(-1, 0)", x.as(-1, 0), Sun.BAD);
            Sun.due("kind(2)", x.kind(2), Sun.BAD);
            Sun.due("kind(-1)", x.kind(-1), Sun.BAD);
        }
    }

    private static void dueAsk(LastSun x, int guest, int what, int answer, int... bodies) {
        String ask = "ask(" + guest + ", " + what + ")";
        Sun.due(ask, x.ask(guest, what), answer);
        for (int i = 0; i < bodies.length; i++) {
            Sun.due("trace(" + i + ") of " + ask, x.trace(i), bodies[i]);
        }
        Sun.due("the end of the trace of " + ask, x.trace(bodies.length), Sun.NONE);
    }

    private static void asks() {
        LastSun x = Sun.on(HEAD + "guest band 1 30 1;guest lone 1 40 1;guest aunt 1 50 1;guest child 1 60 1;", 4);
        dueAsk(x, 0, 0, -70, 13, 10);
        dueAsk(x, 0, 1, 70, 23, 20, 13, 10);
        dueAsk(x, 1, 0, 41, 11, 10, 21, 20);
        dueAsk(x, 1, 1, 1, 21, 20);
        dueAsk(x, 2, 0, -54, 12, 11, 10, 24, 21, 20);
        dueAsk(x, 2, 1, 4, 24, 21, 20);
        dueAsk(x, 3, 0, 60 + 3 - 1000, 11, 10, 22, 21, 20);
        dueAsk(x, 3, 1, 3 - 1000, 22, 21, 20);
        LastSun y = Sun.on(HEAD + "guest lone 1 1 1;guest clan 1 120 1;", 2);
        dueAsk(y, 1, 0, 40, 14, 13, 10);
        dueAsk(y, 1, 1, 1 - 40, 23, 20, 14, 13, 10);
    }

    /** A SUM of 60 by four HEADS: each owes 15, or pays it. */
    private static void asksWithDebt() {
        LastSun x = Sun.on(HEAD + "guest lone 1 0 1;guest aunt 1 0 1;guest child 1 5 1;guest band 1 20 1;", 4);
        Sun.hours(x, 6);
        x.sunset();
        dueAsk(x, 0, 1, 15, 21, 20);
        dueAsk(x, 0, 0, 15, 11, 10, 21, 20);
        dueAsk(x, 1, 1, 32, 24, 21, 20);
        dueAsk(x, 1, 0, -32, 12, 11, 10, 24, 21, 20);
        dueAsk(x, 2, 1, 2 + 10 - 1000, 22, 21, 20);
        dueAsk(x, 2, 0, 2 + 10 - 1000, 11, 10, 22, 21, 20);
        dueAsk(x, 3, 0, -95, 13, 10);
        dueAsk(x, 3, 1, 98, 23, 20, 13, 10);
    }

    private static void traces() {
        LastSun x = Sun.on(HEAD + "guest lone 1 1 1;", 1);
        x.ask(0, 0);
        Sun.due("ask(0, 2)", x.ask(0, 2), Sun.BAD);
        Sun.due("ask(0, -1)", x.ask(0, -1), Sun.BAD);
        Sun.due("ask(1, 0)", x.ask(1, 0), Sun.BAD);
        Sun.due("ask(-1, 0)", x.ask(-1, 0), Sun.BAD);
        Sun.due("the trace stays by BAD", x.trace(0), 11);
        Sun.due("trace(-1)", x.trace(-1), Sun.NONE);
        Sun.due("trace(16)", x.trace(16), Sun.NONE);
        Sun.due("trace(MAX)", x.trace(Integer.MAX_VALUE), Sun.NONE);
        Sun.due("trace(3)", x.trace(3), 20);
        Sun.due("trace(4)", x.trace(4), Sun.NONE);
        x.ask(0, 1);
        Sun.due("a new trace", x.trace(0), 21);
        Sun.due("its end", x.trace(2), Sun.NONE);
    }

    private static void counts() {
        LastSun x = Sun.on(HEAD + "guest lone 1 0 1;guest clan 1 30 1;", 2);
        x.row(3, 0, 0);
        x.feed(0, 5);
        Sun.hours(x, 6);
        x.sunset();
        x.hour();
        x.leave(0);
        int[] due = {1, 2, 1, 1, 9, 1, 20 + 10, 5};
        for (int what = 0; what <= 7; what++) {
            Sun.due("count(" + what + ")", x.count(what), due[what]);
        }
        Sun.due("count(8)", x.count(8), Sun.BAD);
        Sun.due("count(-1)", x.count(-1), Sun.BAD);
    }

    private static void status() {
        LastSun x = Sun.on(HEAD + "guest lone 1 0 1;guest clan 1 30 1;", 2);
        Sun.due("status() at first", x.status(), 0);
        x.as(0, 5);
        Sun.due("status() of KIND", x.status(), 3);
        x.as(0, 6);
        x.kind(0);
        x.ask(0, 0);
        x.hour();
        x.rests(-1);
        x.alone(0, 1, 0);
        x.leave(9);
        x.image(0);
        x.restore(0);
        x.worth(0, 9, 0);
        Sun.due("status() stays", x.status(), 3);
        x.as(0, 1);
        Sun.due("status() of a good as", x.status(), 0);
        x.worth(5, 0, 0);
        Sun.due("status() of NULL", x.status(), 1);
        x.sunset();
        Sun.due("status() stays by STATE", x.status(), 1);
        x.row(5, 0, 2);
        x.as(0, 2);
        x.worth(5, 0, 0);
        Sun.due("status() of a good worth", x.status(), 0);
    }
}
