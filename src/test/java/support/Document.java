import java.io.IOException;
import java.io.UncheckedIOException;
import java.nio.file.Files;
import java.nio.file.Path;
import java.util.LinkedHashMap;
import java.util.Map;
import java.util.regex.Matcher;
import java.util.regex.Pattern;

/**
 * The document by its sections, so that a test can name the words it stands for: what of a section has
 * been named is marked, and what is left may name no boundary.
 */
final class Document {
    private static final Pattern HEADS = Pattern.compile(
        "(?m)^## (Promise \\d+):|^(I|II|III|IV)\\. |^(The constants):|^## (The public face|What it is|Terms|Not promised)$");
    private static final Pattern BOUNDARY = Pattern.compile(
        "[0-9]|\\b(NONE|refused|[Ww]ithout|at most|at least|never|beyond|below|above|none|nothing)\\b");

    private static final Path FILE = Path.of("../shared/DOC.md");

    private final Map<String, String> sections = new LinkedHashMap<>();
    private final Map<String, boolean[]> named = new LinkedHashMap<>();

    /** Where the document is not at hand, the tests are run all the same, and nothing is looked up. */
    Document() {
        String text = "";
        if (Files.isReadable(FILE)) {
            try {
                text = Files.readString(FILE);
            } catch (IOException e) {
                throw new UncheckedIOException(e);
            }
        }
        Matcher head = HEADS.matcher(text);
        String open = null;
        int from = 0;
        while (head.find()) {
            keep(open, text.substring(from, head.start()));
            open = nameOf(head);
            from = head.end();
        }
        keep(open, text.substring(from));
    }

    private static String nameOf(Matcher head) {
        for (int k = 1; k <= head.groupCount(); k++) {
            if (head.group(k) != null) {
                return k == 2 ? "Term " + head.group(k) : head.group(k);
            }
        }
        return null;
    }

    /** Without the title and the signature that a promise begins with: what is left is its sentences. */
    private void keep(String name, String body) {
        if (name != null) {
            String plain = name.startsWith("Promise") ? body.replaceFirst("(?s)^.*?`[^`]*`: ", "") : body;
            String text = plain.replace("```text", " ").replace("```", " ").replaceAll("\\s+", " ").trim();
            sections.put(name, text);
            named.put(name, new boolean[text.length()]);
        }
    }

    /** Marks these words of a section; false if it does not have them. */
    boolean name(String section, String words) {
        if (sections.isEmpty()) {
            return true;
        }
        String text = sections.getOrDefault(section, "");
        int at = text.indexOf(words);
        if (at < 0 || words.isEmpty()) {
            return false;
        }
        for (int k = at; k < at + words.length(); k++) {
            named.get(section)[k] = true;
        }
        return true;
    }

    /** What has not been named of a section, if it names a boundary; else nothing. */
    String forgotten(String section) {
        if (sections.isEmpty()) {
            return "";
        }
        String text = sections.getOrDefault(section, "0: there is no such section");
        boolean[] marked = named.getOrDefault(section, new boolean[text.length()]);
        StringBuilder rest = new StringBuilder();
        for (int k = 0; k < text.length(); k++) {
            rest.append(marked[k] ? '_' : text.charAt(k));
        }
        String left = rest.toString().replaceAll("_+", " _ ");
        return BOUNDARY.matcher(left).find() ? left : "";
    }
}
