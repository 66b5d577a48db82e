import java.io.IOException;
import java.lang.reflect.Constructor;
import java.lang.reflect.Field;
import java.lang.reflect.Method;
import java.lang.reflect.Modifier;
import java.nio.file.Files;
import java.nio.file.Path;
import java.util.List;
import java.util.Set;
import java.util.TreeSet;
import java.util.regex.Matcher;
import java.util.regex.Pattern;

/** What of ../shared/LANGUAGE.md a program can look at: the face, and the words of the source. */
public final class LanguageTest {
    private static final Path SOURCE = Path.of("src/main/java/LastSun.java");
    private static final Set<String> FACE = Doc.face();
    private static final List<String> FORBIDDEN = List.of("throw", "try", "catch", "synchronized", "assert",
        "import", "package", "double", "float", "native", "volatile", "hashCode", "toString", "currentTimeMillis",
        "nanoTime", "random", "Thread", "static\\s*\\{", "->", "::", "\\bvar\\b", "Exact", "protected");
    private static final int MOST_LINES = 60, MOST_CLASSES = 12, MOST_FIELDS = 20, MOST_PARAMETERS = 7;

    public static void main(String[] args) throws IOException {
        constants();
        face();
        classesInside();
        words();
        lengths();
        Sun.end("LanguageTest");
    }

    private static void constants() {
        Sun.due("NONE", LastSun.NONE, -1000000);
        Sun.due("BAD", LastSun.BAD, -1000001);
        Sun.due("STATE", LastSun.STATE, -1000002);
        Sun.due("FULL", LastSun.FULL, -1000003);
    }

    private static void face() {
        Set<String> seen = new TreeSet<>();
        for (Method m : LastSun.class.getDeclaredMethods()) {
            if (!Modifier.isPrivate(m.getModifiers())) {
                StringBuilder name = new StringBuilder(m.getName()).append('(');
                for (Class<?> type : m.getParameterTypes()) {
                    name.append(type.descriptorString());
                }
                seen.add(name.append(')').toString());
                Sun.due(m + " is public and answers an int", isPublicInt(m) ? 1 : 0, 1);
            }
        }
        Sun.due("methods of the document", FACE.size(), 34);
        Sun.due("the face is that of the document: " + seen, seen.equals(FACE) ? 1 : 0, 1);
        int others = 0;
        for (Field f : LastSun.class.getDeclaredFields()) {
            others += Modifier.isPrivate(f.getModifiers()) ? 0 : 1;
        }
        Sun.due("fields that can be seen", others, 4);
        Constructor<?>[] made = LastSun.class.getDeclaredConstructors();
        Sun.due("constructors", made.length, 1);
        Sun.due("public", Modifier.isPublic(made[0].getModifiers()) ? 1 : 0, 1);
        Sun.due("public and final", LastSun.class.getModifiers(), Modifier.PUBLIC | Modifier.FINAL);
    }

    private static boolean isPublicInt(Method m) {
        return m.getModifiers() == Modifier.PUBLIC && m.getReturnType() == int.class;
    }

    private static void classesInside() {
        Class<?>[] inside = LastSun.class.getDeclaredClasses();
        Sun.due("classes of the file", inside.length < MOST_CLASSES ? 1 : 0, 1);
        look(LastSun.class);
        for (Class<?> c : inside) {
            int modifiers = c.getModifiers();
            Sun.due(c + " is static", Modifier.isStatic(modifiers) ? 1 : 0, 1);
            Sun.due(c + " is not public", Modifier.isPublic(modifiers) || Modifier.isProtected(modifiers) ? 1 : 0, 0);
            look(c);
        }
    }

    private static void look(Class<?> c) {
        int fields = 0;
        for (Field f : c.getDeclaredFields()) {
            boolean isConstant = Modifier.isStatic(f.getModifiers());
            Sun.due(f + " is final, if static", !isConstant || Modifier.isFinal(f.getModifiers()) ? 1 : 0, 1);
            fields += isConstant ? 0 : 1;
        }
        Sun.due("fields of " + c, fields <= MOST_FIELDS ? 1 : 0, 1);
        for (Method m : c.getDeclaredMethods()) {
            Sun.due("parameters of " + m, m.getParameterCount() <= MOST_PARAMETERS ? 1 : 0, 1);
            boolean isHidden = c != LastSun.class || Modifier.isPrivate(m.getModifiers());
            boolean bearsItsName = FACE.stream().anyMatch(f -> f.startsWith(m.getName() + "("));
            Sun.due(m + " bears a public name", isHidden && bearsItsName ? 1 : 0, 0);
        }
    }

    /** The source without comments and texts. */
    private static String bare() throws IOException {
        String source = Files.readString(SOURCE);
        return source.replaceAll("(?s)/\\*.*?\\*/", "").replaceAll("//[^\\n]*", "")
            .replaceAll("\"[^\"\\n]*\"", "\"\"");
    }

    private static void words() throws IOException {
        String bare = bare();
        for (String word : FORBIDDEN) {
            String pattern = word.matches("\\w+") ? "\\b" + word + "\\b" : word;
            Matcher m = Pattern.compile(pattern).matcher(bare);
            Sun.due("the word " + word, m.find() ? 1 : 0, 0);
        }
        for (String line : bare.split("\n")) {
            boolean makes = line.matches(".*\\bnew\\b.*");
            boolean isOnce = line.matches(".*(final .* = new .*|\\[\\w\\] = new \\w+\\(\\);)");
            Sun.due("objects are made in constructors alone: " + line, makes && !isOnce ? 1 : 0, 0);
        }
        for (int i = 0; i < bare.length(); i++) {
            if (bare.charAt(i) > 126) {
                Sun.due("the sign at " + i, bare.charAt(i), 0);
            }
        }
    }

    private static void lengths() throws IOException {
        String[] lines = Files.readString(SOURCE).split("\n");
        for (int i = 0; i < lines.length; i++) {
            Matcher m = Pattern.compile("^( +)[\\w\\[\\] ]+\\([^;]*\\) \\{$").matcher(lines[i]);
            if (!m.matches() || lines[i].matches(" +(if|for|while|switch|do|return)\\b.*")) {
                continue;
            }
            int end = i;
            while (end < lines.length && !lines[end].equals(m.group(1) + "}")) {
                end++;
            }
            Sun.due("lines of" + lines[i] + " (" + (end - i) + ")", end - i <= MOST_LINES ? 1 : 0, 1);
        }
    }
}
