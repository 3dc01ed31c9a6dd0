import java.lang.reflect.Method;
import java.lang.reflect.Modifier;
import java.net.URL;
import java.net.URLClassLoader;
import java.nio.file.Files;
import java.nio.file.Path;
import java.util.ArrayList;
import java.util.List;
import java.util.regex.Matcher;
import java.util.regex.Pattern;
import java.util.stream.Stream;
import javax.tools.ToolProvider;

/** README.md is there, says how to use the class and how to run its tests, and what it shows holds. */
public final class ReadmeTest {
    private static final Tester t = new Tester("ReadmeTest");
    private static final Pattern BLOCK = Pattern.compile("(?ms)^```(\\w+)\n(.*?)^```$");
    // A call with the answer that the page tells behind it.
    private static final Pattern TOLD = Pattern.compile("(?m)^(x\\.\\w+\\(.*\\)); +// (-?\\w+)(:.*)?$");

    public static void main(String[] args) throws Exception {
        Path page = Path.of("README.md");
        t.due("README.md is there", Files.isReadable(page), true);
        if (Files.isReadable(page)) {
            String text = Files.readString(page);
            howToUse(section(text, "Use"));
            howToTest(section(text, "Tests"));
            shown(text);
        }
        t.finish();
    }

    private static String section(String text, String title) {
        int from = text.indexOf("\n## " + title + "\n");
        t.due("README.md has a part \"" + title + "\"", from >= 0, true);
        int to = from < 0 ? -1 : text.indexOf("\n## ", from + 1);
        return from < 0 ? "" : text.substring(from, to < 0 ? text.length() : to);
    }

    private static void howToUse(String use) {
        for (Method m : PressAndWait.class.getDeclaredMethods()) {
            if (Modifier.isPublic(m.getModifiers())) {
                boolean there = Pattern.compile("x\\." + m.getName() + "\\(").matcher(use).find();
                t.due("README.md shows " + m.getName() + "()", there, true);
            }
        }
        for (String word : Texts.OWN_WORDS) {
            t.due("README.md shows the word " + word, Pattern.compile("\\b" + word + "\\b").matcher(use).find(), true);
        }
    }

    private static void howToTest(String tests) throws Exception {
        t.due("README.md says how tests are run", tests.contains("\nbash .ci/run\n"), true);
        t.due(".ci/run is there and can be run", Files.isExecutable(Path.of(".ci/run")), true);
        t.due("README.md tells of the shared tests", tests.contains("`../shared/tests`"), true);
        Path home = Path.of("src/test/java");
        try (Stream<Path> files = Files.list(home)) {
            for (Path file : files.filter(f -> f.toString().endsWith("Test.java")).toList()) {
                String name = file.getFileName().toString().replace(".java", "");
                t.due("README.md tells of " + name, tests.contains("`" + name + "`"), true);
            }
        }
        Matcher named = Pattern.compile("`(?:support/)?([A-Z]\\w+)`").matcher(tests);
        while (named.find()) {
            String file = named.group(1) + ".java";
            boolean there = Files.exists(home.resolve(file)) || Files.exists(home.resolve("support").resolve(file));
            t.due(file + ", of which README.md tells, is there", there, true);
        }
    }

    /** The page's text is a CROSSING; its Java is put together to one class, compiled and run. */
    private static void shown(String text) throws Exception {
        StringBuilder members = new StringBuilder();
        StringBuilder lines = new StringBuilder();
        List<String> calls = new ArrayList<>();
        List<String> answers = new ArrayList<>();
        Matcher block = BLOCK.matcher(text);
        while (block.find()) {
            if (block.group(1).equals("text")) {
                t.good(block.group(2).split(";").length - 1, block.group(2));
            } else if (block.group(1).equals("java") && block.group(2).startsWith("static")) {
                members.append(block.group(2));
            } else if (block.group(1).equals("java")) {
                Matcher told = TOLD.matcher(block.group(2));
                while (told.find()) {
                    calls.add(told.group(1));
                    answers.add(told.group(2));
                }
                lines.append(TOLD.matcher(block.group(2)).replaceAll("got.add(String.valueOf($1));"));
            }
        }
        t.due("calls with answers", calls.size() >= 40, true);
        List<?> got = run("import java.util.*; public class Shown {\n" + members
            + "public static List<String> all() { List<String> got = new ArrayList<>();\n" + lines
            + "return got; } }\n");
        t.due("answers", got.size(), calls.size());
        for (int k = 0; k < got.size() && k < calls.size(); k++) {
            String due = answers.get(k).replace("NONE", "-1").replace("NOTHING", "-1000000000000000");
            t.due(calls.get(k) + " answers " + got.get(k) + ", README.md tells " + due, due.equals(got.get(k)), true);
        }
    }

    private static List<?> run(String source) throws Exception {
        Path home = Files.createTempDirectory("readme");
        Path file = Files.writeString(home.resolve("Shown.java"), source);
        String path = System.getProperty("java.class.path");
        int exit = ToolProvider.getSystemJavaCompiler().run(null, null, null, "-cp", path, "-d", home.toString(),
            file.toString());
        t.due("what README.md shows can be compiled", exit, 0);
        List<?> got = List.of();
        if (exit == 0) {
            try (URLClassLoader loader = new URLClassLoader(new URL[] {home.toUri().toURL()})) {
                got = (List<?>) loader.loadClass("Shown").getMethod("all").invoke(null);
            }
        }
        try (Stream<Path> files = Files.list(home)) {
            for (Path made : files.toList()) {
                Files.delete(made);
            }
        }
        Files.delete(home);
        return got;
    }
}
