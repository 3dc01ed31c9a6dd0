import com.sun.management.ThreadMXBean;
import java.lang.management.ManagementFactory;
import java.lang.reflect.Constructor;
import java.lang.reflect.Field;
import java.lang.reflect.Method;
import java.lang.reflect.Modifier;
import java.nio.file.Files;
import java.nio.file.Path;
import java.util.ArrayList;
import java.util.Arrays;
import java.util.List;
import java.util.Map;
import java.util.Set;
import java.util.TreeMap;
import java.util.TreeSet;
import java.util.regex.Matcher;
import java.util.regex.Pattern;

/** The public face, and those rules of LANGUAGE.md that can be seen from the text of the class. */
public final class LanguageTest {
    private static final Tester t = new Tester("LanguageTest");
    private static final String[] FACE = {"boolean end(int)", "boolean green(int)", "boolean on()",
        "boolean rule(int)", "boolean seed(int)", "boolean trust(int,int)", "boolean undo()", "int best(int,int)",
        "int car(int)", "int chance(int)", "int crossing()", "int day(int)", "int days(int)", "int doubts(int)",
        "int fault(int)", "int feed(int,int,int,int,int)", "int fits(int)", "int has(int)", "int hold()",
        "int image()", "int kind(int,int)", "int later(int,int)", "int least()", "int letter(int,int,int)",
        "int light(int)", "int octet(int)", "int see()", "int status(int)", "int walker(int,int)",
        "int watched(int)", "long ask()"};

    public static void main(String[] args) throws Exception {
        face();
        classes();
        String source = withoutComments(Files.readString(Path.of("src/main/java/PressAndWait.java")));
        words(source);
        methods(source);
        t.due("calls that are no recursion go eight deep at most, not " + calls(source), calls(source).size() <= 8, true);
        room();
        t.finish();
    }

    private static void face() {
        Set<String> found = new TreeSet<>();
        Set<String> names = new TreeSet<>();
        for (Method m : PressAndWait.class.getDeclaredMethods()) {
            if (Modifier.isPublic(m.getModifiers())) {
                String types = Arrays.stream(m.getParameterTypes()).map(Class::getName)
                    .reduce((a, b) -> a + "," + b).orElse("");
                found.add(m.getReturnType().getName() + " " + m.getName() + "(" + types + ")");
                names.add(m.getName());
            }
        }
        t.due("the face is " + found, found.equals(new TreeSet<>(Arrays.asList(FACE))), true);
        for (Method m : PressAndWait.class.getDeclaredMethods()) {
            boolean hidden = Modifier.isPrivate(m.getModifiers());
            t.due(m + " is public or private", hidden || Modifier.isPublic(m.getModifiers()), true);
            t.due(m + " has a name of its own", hidden && names.contains(m.getName()), false);
        }
        for (Constructor<?> c : PressAndWait.class.getDeclaredConstructors()) {
            t.due(c + " is public, without arguments", Modifier.isPublic(c.getModifiers())
                && c.getParameterCount() == 0, true);
        }
        t.due("the class is public and final",
            PressAndWait.class.getModifiers() & (Modifier.PUBLIC | Modifier.FINAL),
            Modifier.PUBLIC | Modifier.FINAL);
        for (Field f : PressAndWait.class.getDeclaredFields()) {
            boolean constant = f.getName().equals("NONE") || f.getName().equals("NOTHING");
            t.due(f + " is private, but for the constants", Modifier.isPrivate(f.getModifiers()), !constant);
        }
        t.due("NONE", PressAndWait.NONE, -1);
        t.due("NOTHING", PressAndWait.NOTHING, -1000000000000000L);
    }

    private static void classes() {
        Class<?>[] inside = PressAndWait.class.getDeclaredClasses();
        t.due("some twelve classes", inside.length + 1 <= 12, true);
        Class<?>[] all = Arrays.copyOf(inside, inside.length + 1);
        all[inside.length] = PressAndWait.class;
        for (Class<?> c : all) {
            int fields = 0;
            for (Field f : c.getDeclaredFields()) {
                if (Modifier.isStatic(f.getModifiers())) {
                    t.due(f + " is final", Modifier.isFinal(f.getModifiers()), true);
                } else {
                    fields++;
                }
            }
            t.due(c + " has some twenty fields", fields <= 20, true);
            t.due(c + " is static", c == PressAndWait.class || Modifier.isStatic(c.getModifiers()), true);
            for (Method m : c.getDeclaredMethods()) {
                t.due(m + " takes seven at most", m.getParameterCount() <= 7, true);
            }
        }
    }

    private static String withoutComments(String source) {
        return source.replaceAll("(?s)/\\*.*?\\*/", "").replaceAll("//[^\n]*", "");
    }

    private static void words(String source) {
        String[] banned = {"throw", "throws", "try", "catch", "finally", "synchronized", "assert", "instanceof",
            "package", "protected", "native", "volatile", "Random", "System\\.(?!arraycopy)", "Thread", "->", "::",
            "hashCode", "toString", "@Override", "var", "double", "float", "while \\(true", "for \\(;;"};
        for (String word : banned) {
            String pattern = Character.isLetter(word.charAt(0)) ? "\\b" + word + (word.matches("\\w+") ? "\\b" : "") : word;
            t.due(word, Pattern.compile(pattern).matcher(source).find(), false);
        }
        for (String line : source.split("\n")) {
            if (line.startsWith("import")) {
                t.due(line, line.equals("import java.util.Arrays;"), true);
            }
            for (char c : line.toCharArray()) {
                if (c < 32 || c > 126) {
                    t.due("a sign " + (int) c, 1, 0);
                }
            }
            t.due(line + " joins texts", line.contains("\" +") || line.contains("+ \""), false);
        }
    }

    /** A method begins where its line ends in ") {", four or eight blanks in, and ends with such a }. */
    private static Map<String, String> bodies(String source) {
        Map<String, String> bodies = new TreeMap<>();
        Matcher head = Pattern.compile("(?ms)^( {4}| {8})(?! )[\\w\\[\\] ]*?(\\w+)\\([^;{]*\\) \\{$(.*?)^\\1\\}$")
            .matcher(source);
        while (head.find()) {
            bodies.merge(head.group(2), head.group(3), String::concat);
        }
        return bodies;
    }

    private static void methods(String source) {
        Map<String, String> bodies = bodies(source);
        t.due("the methods are found", bodies.keySet().containsAll(Set.of("feed", "status", "lay", "part")), true);
        for (Map.Entry<String, String> method : bodies.entrySet()) {
            t.due(method.getKey() + " has sixty lines at most", method.getValue().split("\n").length <= 60, true);
        }
    }

    /**
     * The longest chain of calls among the methods of the file, told by their names; those that call
     * one another, straight or over others, count as one.
     */
    private static List<String> calls(String source) {
        Map<String, String> bodies = bodies(source);
        Map<String, Set<String>> reached = new TreeMap<>();
        for (String name : bodies.keySet()) {
            Set<String> called = new TreeSet<>();
            Matcher call = Pattern.compile("(?<!new )\\b(\\w+)\\(").matcher(bodies.get(name));
            while (call.find()) {
                if (bodies.containsKey(call.group(1))) {
                    called.add(call.group(1));
                }
            }
            reached.put(name, called);
        }
        for (String over : bodies.keySet()) {
            for (Set<String> called : reached.values()) {
                if (called.contains(over)) {
                    called.addAll(reached.get(over));
                }
            }
        }
        List<String> longest = List.of();
        Map<String, List<String>> chains = new TreeMap<>();
        for (String name : bodies.keySet()) {
            List<String> chain = chain(name, reached, chains);
            longest = chain.size() > longest.size() ? chain : longest;
        }
        return longest;
    }

    private static List<String> chain(String name, Map<String, Set<String>> reached, Map<String, List<String>> known) {
        if (known.containsKey(name)) {
            return known.get(name);
        }
        List<String> below = List.of();
        for (String called : reached.get(name)) {
            if (!reached.get(called).contains(name)) {
                List<String> chain = chain(called, reached, known);
                below = chain.size() > below.size() ? chain : below;
            }
        }
        List<String> all = new ArrayList<>(List.of(name));
        all.addAll(below);
        known.put(name, all);
        return all;
    }

    /** All calls of a run live in one room: an object takes little of it, and no call takes any more. */
    private static void room() {
        ThreadMXBean thread = (ThreadMXBean) ManagementFactory.getThreadMXBean();
        long[] bytes = new long[3];
        for (int k = 0; k < 3; k++) {
            long before = thread.getCurrentThreadAllocatedBytes();
            PressAndWait x = new PressAndWait();
            long made = thread.getCurrentThreadAllocatedBytes();
            calls(x);
            bytes[0] = made - before;
            bytes[1] = thread.getCurrentThreadAllocatedBytes() - made;
        }
        t.due("a new object takes " + bytes[0] + " bytes", bytes[0] < 100000, true);
        t.due("its calls take " + bytes[1] + " bytes", bytes[1] < 1000, true);
    }

    /** The dearest calls; the text is a crossing of one statement, the question is "often all". */
    private static void calls(PressAndWait x) {
        for (int k = 0; k < 20; k++) {
            x.feed(0x6379636C, 0x65203130, 0x20677265, 0x656E2031, 0x2072756C);
            x.feed(0x65203020, 0x6C656173, 0x7420303B, 0, 0);
            x.end(32);
            x.crossing();
            x.day(0);
            x.best(0, 0);
            x.least();
            x.hold();
            x.later(29, 0);
            x.fits(0);
            x.watched(0);
            x.green(2);
            x.days(30);
            x.chance(30);
            x.undo();
            x.image();
            x.feed(0x6F667465, 0x6E20616C, 0x6C000000, 0, 0);
            x.end(9);
            x.ask();
            x.see();
            x.on();
        }
    }
}
