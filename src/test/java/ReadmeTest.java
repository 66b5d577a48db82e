import java.io.IOException;
import java.nio.file.Files;
import java.nio.file.Path;
import java.util.Arrays;
import java.util.Set;
import java.util.TreeSet;
import java.util.regex.Matcher;
import java.util.regex.Pattern;

/** README.md says how to use the class: its examples answer as it says, and it names every call. */
public final class ReadmeTest {
    private static final Pattern MADE = Pattern.compile("LastSun x = new LastSun\\(\\);");
    private static final Pattern FED = Pattern.compile("feed\\(x, \"([^\"]*)\"\\);");
    private static final Pattern CALLED = Pattern.compile("x\\.(\\w+)\\(([^)]*)\\);\\s*// (-?\\d+)(:.*)?");
    private static final int LEAST_CALLS = 20;

    public static void main(String[] args) throws IOException {
        String readme = Files.readString(Path.of("README.md"));
        examples(readme);
        names(readme);
        Sun.end("ReadmeTest");
    }

    private static void examples(String readme) {
        LastSun x = new LastSun();
        int calls = 0;
        for (String line : readme.split("\n")) {
            Matcher fed = FED.matcher(line);
            Matcher called = CALLED.matcher(line);
            if (MADE.matcher(line).matches()) {
                x = new LastSun();
            } else if (fed.matches()) {
                Sun.feed(x, fed.group(1));
            } else if (called.matches()) {
                Bounds.due(x, Integer.parseInt(called.group(3)), called.group(1), numbers(called.group(2)));
                calls++;
            } else {
                Sun.due("a call that was not understood: " + line, line.startsWith("x.") ? 1 : 0, 0);
            }
        }
        Sun.due("calls of the examples, enough of them", calls >= LEAST_CALLS ? 1 : 0, 1);
    }

    private static long[] numbers(String args) {
        if (args.isEmpty()) {
            return new long[0];
        }
        return Arrays.stream(args.split(", ")).mapToLong(arg -> Long.decode(arg.replace("L", ""))).toArray();
    }

    private static void names(String readme) {
        Set<String> named = new TreeSet<>();
        Matcher m = Pattern.compile("`(\\w+)`").matcher(readme);
        while (m.find()) {
            named.add(m.group(1));
        }
        for (String call : Doc.face()) {
            String name = call.substring(0, call.indexOf('('));
            Sun.due("README.md names " + name, named.contains(name) ? 1 : 0, 1);
        }
    }
}
