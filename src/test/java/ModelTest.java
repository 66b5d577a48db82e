import java.lang.reflect.InvocationTargetException;
import java.lang.reflect.Method;
import java.util.Random;

/** Compares LastSun with Model over many runs of calls; the seeds are fixed, so all runs are alike. */
public final class ModelTest {
    private static final String[] NAMES = {"row", "set", "copy", "drop", "feed", "beach", "fault", "hour", "leave",
        "cloud", "shade", "gift", "sunset", "undo", "guest", "price", "worth", "best", "rounds", "rests", "pact",
        "alone", "explained", "laws", "owner", "owes", "image", "restore", "kind", "as", "ask", "trace", "count",
        "status"};
    private static final String[] DEAR = {"rests", "explained", "owner"};
    private static final String[] SORTS = {"lone", "aunt", "child", "band", "clan"};

    private final Random random;
    private final LastSun sun = new LastSun();
    private final Model model = new Model();
    private final StringBuilder log = new StringBuilder();
    private boolean isWrong = false;
    private int calls = 0;

    private ModelTest(long seed) {
        random = new Random(seed);
    }

    public static void main(String[] args) throws ReflectiveOperationException {
        int runs = args.length > 0 ? Integer.parseInt(args[0]) : 150;
        long first = args.length > 1 ? Long.parseLong(args[1]) : 1;
        for (long seed = first; seed < first + runs; seed++) {
            ModelTest test = new ModelTest(seed);
            test.run();
            Sun.due("run " + seed + " of the model", test.isWrong ? 1 : 0, 0);
            if (test.isWrong) {
                System.out.println(test.log);
                break;
            }
        }
        Sun.end("ModelTest");
    }

    private void run() throws ReflectiveOperationException {
        if (random.nextInt(10) > 0) {
            beach();
        }
        while (calls < 500 && !isWrong) {
            int dice = random.nextInt(100);
            if (dice < 2) {
                beach();
            } else if (dice < 10) {
                tellHours();
            } else if (dice < 13) {
                tellPays();
            } else if (dice < 17) {
                day();
            } else if (dice < 20) {
                foretell();
            } else {
                anyCall();
            }
        }
    }

    private void anyCall() throws ReflectiveOperationException {
        String name = NAMES[random.nextInt(NAMES.length)];
        for (String dear : DEAR) {
            if (name.equals(dear) && random.nextInt(5) > 0) {
                return;
            }
        }
        Method method = methodOf(LastSun.class, name);
        Class<?>[] types = method.getParameterTypes();
        Object[] args = new Object[types.length];
        for (int i = 0; i < args.length; i++) {
            args[i] = types[i] == long.class ? (Object) random.nextLong() : (Object) number();
        }
        call(name, args);
        if (name.equals("ask")) {
            for (int i = 0; i < 7; i++) {
                call("trace", i);
            }
        }
        if (random.nextInt(4) == 0) {
            call("status");
        }
    }

    private int number() {
        int dice = random.nextInt(100);
        if (dice < 70) return random.nextInt(4);
        if (dice < 88) return random.nextInt(9) - 1;
        if (dice < 94) return random.nextInt(70) - 5;
        if (dice < 97) return random.nextInt(1100);
        return new int[] {Integer.MIN_VALUE, Integer.MAX_VALUE, 61, 999, -1}[random.nextInt(5)];
    }

    private void tellHours() throws ReflectiveOperationException {
        int row = random.nextInt(3);
        int n = random.nextInt(20) == 0 ? 3 : 4;
        call("row", row, random.nextInt(3), n);
        for (int i = 0; i < n; i++) {
            call("set", row, i, random.nextInt(40) == 0 ? 7 : random.nextInt(7));
        }
    }

    private void tellPays() throws ReflectiveOperationException {
        int row = random.nextInt(3);
        int hours = (row + 1) % 3;
        int[] pays = new int[4];
        for (int g = 0; g < 4; g++) {
            pays[g] = Math.max(0, call("worth", hours, g, 1));
        }
        call("row", row, 2, 4);
        for (int g = 0; g < 4; g++) {
            call("set", row, g, pays[g]);
        }
        for (int g = -1; g < 4; g++) {
            call("explained", row, g);
        }
    }

    /** All that is FORETOLD by ROW 0, by umbrellas and clouds of any kind. */
    private void foretell() throws ReflectiveOperationException {
        tellHours();
        for (int g = 0; g < 4; g++) {
            call("shade", g, random.nextInt(3) / 2);
            for (int what = 0; what < 3; what++) {
                call("worth", 0, g, what);
            }
            call("best", 0, g);
            call("rounds", 0, g);
            call("alone", g, random.nextInt(11), 0);
            call("alone", g, random.nextInt(11), 1);
            call("ask", g, random.nextInt(2));
        }
        call("cloud", random.nextInt(6));
        call("rounds", 0, -1);
        int a = random.nextInt(4);
        int b = random.nextInt(4);
        for (int what = 0; what < 2; what++) {
            call("pact", 0, a, b, what);
            call("laws", 0, what);
            call("owner", 0, what);
        }
        call("rests", random.nextInt(5) - 1);
    }

    private void day() throws ReflectiveOperationException {
        for (int i = 0; i < 20 && call("count", 2) < 6 && !isWrong; i++) {
            if (call("hour") < 0) {
                return;
            }
            if (random.nextInt(3) == 0) {
                call("leave", random.nextInt(4));
            }
        }
        call("sunset");
        for (int g = 0; g < 4; g++) {
            call("guest", g, 1);
            call("guest", g, 6);
        }
    }

    private void beach() throws ReflectiveOperationException {
        StringBuilder text = new StringBuilder();
        text.append("law ").append(random.nextInt(3)).append(' ').append(random.nextInt(10)).append(";sun");
        int dear = random.nextInt(30) + 1;
        for (int h = 0; h < 6; h++) {
            text.append(' ').append(random.nextInt(dear + 1));
        }
        text.append(';');
        int guests = random.nextInt(12) == 0 ? random.nextInt(6) : random.nextInt(3) + 2;
        for (int g = 0; g < guests; g++) {
            text.append("guest ").append(SORTS[random.nextInt(5)]).append(' ').append(random.nextInt(21))
                .append(' ').append(random.nextInt(3) == 0 ? 0 : random.nextInt(201))
                .append(' ').append(random.nextInt(6) + 1).append(';');
        }
        if (random.nextInt(4) == 0) {
            spoil(text);
        }
        for (int at = 0; at < text.length(); at += 8) {
            int n = Math.min(8, text.length() - at);
            long w = random.nextInt(2) == 0 || n == 8 ? 0 : -1L << 8 * n;
            for (int i = 0; i < n; i++) {
                w |= (long) (text.charAt(at + i) & 255) << 8 * (n - 1 - i);
            }
            call("feed", w, n);
        }
        call("beach");
        call("fault");
    }

    private void spoil(StringBuilder text) {
        String signs = " \n;0123456789aeglnstuwx{A\t\u00e9";
        for (int times = random.nextInt(3); times >= 0; times--) {
            int at = random.nextInt(text.length());
            char sign = signs.charAt(random.nextInt(signs.length()));
            switch (random.nextInt(4)) {
                case 0 -> text.setCharAt(at, sign);
                case 1 -> text.insert(at, sign);
                case 2 -> text.deleteCharAt(at);
                default -> text.insert(at, ' ');
            }
        }
    }

    private int call(String name, Object... args) throws ReflectiveOperationException {
        if (isWrong) {
            return 0;
        }
        calls++;
        Object want = methodOf(Model.class, name).invoke(model, args);
        Object got;
        try {
            got = methodOf(LastSun.class, name).invoke(sun, args);
        } catch (InvocationTargetException e) {
            got = e.getCause();
        }
        log.append(name).append(java.util.Arrays.toString(args)).append(" answered ").append(got)
            .append(", due is ").append(want).append('\n');
        isWrong = !want.equals(got);
        return (Integer) want;
    }

    private static Method methodOf(Class<?> of, String name) {
        for (Method m : of.getDeclaredMethods()) {
            if (m.getName().equals(name)) {
                return m;
            }
        }
        throw new IllegalStateException(name);
    }
}
