import java.lang.reflect.InvocationTargetException;
import java.lang.reflect.Method;
import java.util.List;

/** What the bounds tests share: calls told by their names, and twins that tell whether a call changed anything. */
abstract class Bounds {
    static final int NONE = Sun.NONE, BAD = Sun.BAD, STATE = Sun.STATE, FULL = Sun.FULL;
    static final int NULL = Sun.NULL, PLACE = Sun.PLACE, KIND = Sun.KIND, SIZE = Sun.SIZE, STORE = Sun.STORE;
    static final int MIN = Integer.MIN_VALUE, MAX = Integer.MAX_VALUE;

    static void says(int promise, String sentence) {
        Doc.says(promise, sentence);
    }

    static int call(LastSun x, String name, long... args) {
        for (Method m : LastSun.class.getDeclaredMethods()) {
            if (m.getName().equals(name)) {
                return invoke(m, x, args);
            }
        }
        throw new IllegalArgumentException(name);
    }

    private static int invoke(Method m, LastSun x, long... args) {
        Object[] boxed = new Object[args.length];
        for (int i = 0; i < args.length; i++) {
            boxed[i] = m.getParameterTypes()[i] == long.class ? (Object) args[i] : (Object) (int) args[i];
        }
        try {
            return (Integer) m.invoke(x, boxed);
        } catch (InvocationTargetException | IllegalAccessException e) {
            throw new IllegalStateException(m.getName() + " threw", e);
        }
    }

    static String label(String name, long... args) {
        StringBuilder label = new StringBuilder(name).append('(');
        for (int i = 0; i < args.length; i++) {
            label.append(i == 0 ? "" : ", ").append(args[i]);
        }
        return label.append(')').toString();
    }

    static void due(LastSun x, int want, String name, long... args) {
        Sun.due(label(name, args), call(x, name, args), want);
    }

    /** What a call answers behind a scene. */
    static LastSun answers(Scenes.Scene scene, int want, String name, long... args) {
        LastSun x = Scenes.after(scene);
        due(x, want, name, args);
        return x;
    }

    /** A call that is refused, or finds: so it answers, and nothing but status() changes, which tells a FINDING. */
    static void refused(Scenes.Scene scene, int want, String name, long... args) {
        LastSun x = Scenes.after(scene);
        int ahead = x.status();
        due(x, want, name, args);
        boolean isFound = want <= NULL && want >= STORE;
        Sun.due("status() behind " + label(name, args), x.status(), isFound ? NULL + 1 - want : ahead);
        unchanged(scene, "status()", name, args);
    }

    /** A call that answers well, and changes nothing but what is named. */
    static void quiet(Scenes.Scene scene, int want, String but, String name, long... args) {
        answers(scene, want, name, args);
        unchanged(scene, but, name, args);
    }

    /** Looks at two objects of one history, of which one has heard a call more. */
    static void unchanged(Scenes.Scene scene, String but, String name, long... args) {
        for (Probes.Probe probe : Probes.ALL) {
            LastSun twin = Scenes.after(scene);
            call(twin, name, args);
            List<String> with = Probes.seenBy(probe, twin);
            List<String> without = Probes.seenBy(probe, Scenes.after(scene));
            dueAlike(label(name, args), with, without, but);
        }
    }

    static void dueAlike(String label, List<String> with, List<String> without, String but) {
        Sun.due("answers behind " + label, with.size(), without.size());
        for (int i = 0; i < Math.min(with.size(), without.size()); i++) {
            boolean isTold = !but.isEmpty() && with.get(i).startsWith(but);
            boolean isAlike = isTold || with.get(i).equals(without.get(i));
            Sun.due("behind " + label + " " + with.get(i) + ", not " + without.get(i), isAlike ? 1 : 0, 1);
        }
    }
}
