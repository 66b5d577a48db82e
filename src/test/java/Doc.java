import java.io.IOException;
import java.io.UncheckedIOException;
import java.nio.file.Files;
import java.nio.file.Path;
import java.util.Set;
import java.util.TreeMap;
import java.util.TreeSet;
import java.util.regex.Matcher;
import java.util.regex.Pattern;

/** The document: which sentence a test is about, and which ones no test has named. */
final class Doc {
    /** Parts of the document that are no promises. */
    static final int WHAT_IT_IS = -1, TERMS = 0;
    private static final int PROMISES = 35;
    /** What the document says, by promise, and what of its Terms and promises no test has named yet. */
    private static final TreeMap<Integer, String> SAID = read();
    private static final TreeMap<Integer, String> LEFT = new TreeMap<>(SAID.tailMap(TERMS));

    private Doc() {
    }

    private static String whole() {
        try {
            return Files.readString(Path.of("../shared/DOC.md"));
        } catch (IOException e) {
            throw new UncheckedIOException(e);
        }
    }

    /** The methods of the public face, each with the types that it takes: "feed(JI)". */
    static Set<String> face() {
        Set<String> face = new TreeSet<>();
        Matcher m = Pattern.compile("public int (\\w+)\\(([^)]*)\\);").matcher(
            between(whole(), "## The public face", "## Terms"));
        while (m.find()) {
            String types = m.group(2).replaceAll("int \\w+", "I").replaceAll("long \\w+", "J");
            face.add(m.group(1) + "(" + types.replace(", ", "") + ")");
        }
        return face;
    }

    private static TreeMap<Integer, String> read() {
        String text = whole().replaceAll("(?m)^```.*$", " ").replaceAll("======== \\d", " ");
        TreeMap<Integer, String> said = new TreeMap<>();
        said.put(WHAT_IT_IS, plain(between(text, "## What it is", "## The public face")));
        said.put(TERMS, plain(between(text, "## Terms", "## Promise 1:")));
        for (int promise = 1; promise <= PROMISES; promise++) {
            String next = promise == PROMISES ? "## Not promised" : "## Promise " + (promise + 1) + ":";
            String part = between(text, "## Promise " + promise + ":", next);
            said.put(promise, plain(part.substring(part.indexOf('\n')).replaceFirst("`[^`]*`:", "")));
        }
        return said;
    }

    private static String between(String text, String from, String to) {
        int start = text.indexOf(from);
        int end = text.indexOf(to);
        return start < 0 || end < start ? "" : text.substring(start + from.length(), end);
    }

    private static String plain(String text) {
        return text.replaceAll("\\s+", " ").trim();
    }

    /** The answers that follow are about this sentence, which must stand in the document word by word. */
    static void says(int promise, String sentence) {
        String where = promise == WHAT_IT_IS ? "What it is" : promise == TERMS ? "Terms" : "Promise " + promise;
        Sun.about(where + " (" + sentence + "): ");
        Sun.due("the document says so", SAID.get(promise).contains(sentence) ? 1 : 0, 1);
        LEFT.computeIfPresent(promise, (p, left) -> left.replace(sentence, " "));
    }

    /** Nothing of the Terms and of the promises is left that no test has named. */
    static void dueAllNamed() {
        Sun.about("");
        LEFT.forEach((promise, left) -> {
            String words = left.replaceAll("[^A-Za-z0-9]", "");
            Sun.due("Promise " + promise + ": no test names '" + left.trim() + "', which", words.length(), 0);
        });
    }
}
