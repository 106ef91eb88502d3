import java.io.IOException;
import java.lang.reflect.Method;
import java.nio.file.Files;
import java.nio.file.Path;
import java.util.ArrayList;
import java.util.List;
import java.util.Set;
import java.util.TreeSet;
import java.util.regex.Matcher;
import java.util.regex.Pattern;
import java.util.stream.Stream;

/** README.md tells the truth: its example, its table of calls, and its list of tests. */
public final class ReadmeTest {
    private static final Path README = Path.of("README.md");
    private static final Path DOCUMENT = Path.of("../shared/DOC.md");
    private static final Path TESTS = Path.of("src/test/java");
    private static final Due due = new Due();

    public static void main(String[] args) throws IOException, ReflectiveOperationException {
        String readme = Files.readString(README);
        String document = Files.readString(DOCUMENT);
        example(readme);
        table(readme, document);
        listOfTests(readme);
        due.end();
    }

    private static List<String> found(String regex, String text) {
        List<String> all = new ArrayList<>();
        Matcher matcher = Pattern.compile(regex).matcher(text);
        while (matcher.find()) {
            all.add(matcher.group(1));
        }
        return all;
    }

    // ---- The example ----

    private static void example(String readme) throws ReflectiveOperationException {
        due.about("README.md, the example");
        List<String> blocks = found("(?s)```java\n(.*?)```", readme);
        due.is("blocks of Java", blocks.size(), 1);
        String[] lines = blocks.get(0).split("\n");
        due.is("begins with a new house",
                lines[0].equals("CordlessHouse house = new CordlessHouse();"), true);
        CordlessHouse house = new CordlessHouse();
        Pattern call = Pattern.compile("house\\.(\\w+)\\((.*)\\); +// (-?\\d+|true|false): .+");
        for (int i = 1; i < lines.length; i++) {
            Matcher told = call.matcher(lines[i]);
            due.is("a call with its answer: " + lines[i], told.matches(), true);
            if (told.matches()) {
                String got = answer(house, told.group(1), told.group(2).split(", "));
                due.is(lines[i] + " answered " + got + ", is that told", got.equals(told.group(3)), true);
            }
        }
    }

    private static String answer(CordlessHouse house, String name, String[] words)
            throws ReflectiveOperationException {
        for (Method method : CordlessHouse.class.getMethods()) {
            if (method.getName().equals(name)) {
                Class<?>[] types = method.getParameterTypes();
                Object[] values = new Object[words.length];
                for (int i = 0; i < words.length; i++) {
                    values[i] = value(types[i], words[i]);
                }
                return method.invoke(house, values).toString();
            }
        }
        return "nothing: no such call";
    }

    private static Object value(Class<?> type, String word) {
        if (type == boolean.class) {
            return Boolean.valueOf(word);
        }
        if (type == long.class) {
            return Long.valueOf(word.replace("L", ""));
        }
        return Integer.valueOf(word);
    }

    // ---- The table ----

    private static void table(String readme, String document) {
        due.about("README.md, the table of calls");
        List<String> face = found("\n    public (\\w+ \\w+\\(.*\\));", document);
        List<String> rows = found("\n\\| `(\\w+ \\w+\\(.*\\))` \\|", readme);
        due.is("calls of the document", face.size(), 19);
        due.is("the same calls in the same order", rows.equals(face), true);
        for (String call : face) {
            String quoted = Pattern.quote(call);
            List<String> told = found("\n\\| `" + quoted + "` \\|.*\\|([^|]*)\\|\n", readme);
            List<String> promised = found("\n`" + quoted + "`: (.*)\n", document);
            due.is(call + " in both", told.size() == 1 && promised.size() == 1, true);
            if (call.matches(".* (portableOf|bearer|count)\\(.*")) {
                due.is(call + " tells no refusal", told.get(0).isBlank(), true);
            } else {
                due.is(call + " tells its refusals", refusals(told.get(0)).equals(refusals(promised.get(0))),
                        true);
            }
        }
    }

    private static Set<String> refusals(String text) {
        return new TreeSet<>(found("(-\\d)", text));
    }

    // ---- The list of tests ----

    private static void listOfTests(String readme) throws IOException {
        due.about("README.md, the list of tests");
        Set<String> there = new TreeSet<>();
        try (Stream<Path> files = Files.list(TESTS)) {
            files.forEach(file -> there.add(file.getFileName().toString().replace(".java", "")));
        }
        String list = readme.substring(Math.max(0, readme.indexOf("\n## Tests")));
        for (String name : there) {
            due.is(name + " is named", list.contains("`" + name + "`"), true);
        }
        for (String name : found("`(\\w*[A-Z]\\w*)`", list)) {
            due.is(name + " is there", there.contains(name), true);
        }
    }
}
