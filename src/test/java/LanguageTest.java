import java.io.IOException;
import java.lang.reflect.Constructor;
import java.lang.reflect.Field;
import java.lang.reflect.Method;
import java.lang.reflect.Modifier;
import java.nio.file.Files;
import java.nio.file.Path;
import java.util.Arrays;
import java.util.List;
import java.util.Set;
import java.util.TreeSet;
import java.util.regex.Matcher;
import java.util.regex.Pattern;

/** The rules of LANGUAGE.md that can be seen in the source's words and in the class's face. */
public final class LanguageTest {
    private static final Path SOURCE = Path.of("src/main/java/CordlessHouse.java");
    private static final List<String> FACE = List.of(
            "int cell(int)", "int portable(int,long)", "int reach(int,int)",
            "boolean noise(int,int,boolean)", "int go(int,int)", "int enter(int,long)",
            "int dial(int,int)", "int answer(int)", "int hang(int)", "int say(int,long)",
            "int frames(int)", "long heard(int,int)", "int portableOf(int,int)",
            "int bearer(int,int)", "int level(int,int,int)", "boolean beacon(int,int)",
            "long mix(long,long)", "long air(int)", "int count(int)");
    private static final List<String> FORBIDDEN = List.of(
            "\\b(throw|throws|try|catch|finally|synchronized|assert|import|package|volatile)\\b",
            "->", "::", "\\b(protected|native|strictfp|transient)\\b", "\\bstatic\\s*\\{",
            "\\b(hashCode|toString|equals)\\b", "\\w+Exact\\b",
            "\\b(System|Thread|Random|Object|Class)\\b", "@", "while \\(true\\)", "for \\(;;\\)");
    private static final Set<String> LIBRARY = Set.of("Math.max(", "Integer.bitCount(");
    private static final Due due = new Due();

    public static void main(String[] args) throws IOException {
        words();
        face();
        insideClasses();
        lengths();
        due.end();
    }

    private static String code() throws IOException {
        String text = Files.readString(SOURCE);
        return text.replaceAll("(?s)/\\*.*?\\*/", " ").replaceAll("//[^\n]*", " ");
    }

    private static void words() throws IOException {
        due.about("words of the source");
        String code = code();
        for (String word : FORBIDDEN) {
            Matcher found = Pattern.compile(word).matcher(code);
            due.is(word, found.find(), false);
        }
        due.is("no characters above 255", code.chars().allMatch(c -> c < 256), true);
        Matcher used = Pattern.compile("\\b[A-Z]\\w*\\.\\w+\\(").matcher(code);
        while (used.find()) {
            due.is("rule 4, " + used.group() + ")", LIBRARY.contains(used.group()), true);
        }
    }

    private static String told(Method m) {
        StringBuilder text = new StringBuilder(m.getReturnType() + " " + m.getName() + "(");
        for (Class<?> type : m.getParameterTypes()) {
            text.append(text.charAt(text.length() - 1) == '(' ? "" : ",").append(type);
        }
        return text.append(")").toString();
    }

    private static void face() {
        due.about("rule 1, the face");
        Class<?> house = CordlessHouse.class;
        due.is("public and final", Modifier.isPublic(house.getModifiers())
                && Modifier.isFinal(house.getModifiers()), true);
        Set<String> open = new TreeSet<>();
        Set<String> closed = new TreeSet<>();
        for (Method m : house.getDeclaredMethods()) {
            if (Modifier.isPrivate(m.getModifiers())) {
                closed.add(m.getName());
            } else {
                due.is(m.getName() + " is public", Modifier.isPublic(m.getModifiers()), true);
                open.add(told(m));
            }
        }
        due.is("the methods are the document's", open.equals(new TreeSet<>(FACE)), true);
        for (String method : FACE) {
            String name = method.replaceAll(".* |\\(.*", "");
            due.is("a private " + name, closed.contains(name), false);
        }
        Constructor<?>[] made = house.getDeclaredConstructors();
        due.is("constructors", made.length, 1);
        due.is("without parameters", made[0].getParameterCount(), 0);
        for (Field field : house.getDeclaredFields()) {
            due.is(field.getName() + " is private", Modifier.isPrivate(field.getModifiers()), true);
        }
    }

    private static void insideClasses() {
        due.about("rules 1, 2, 5 and 11, classes");
        Class<?>[] inside = CordlessHouse.class.getDeclaredClasses();
        due.is("at most twelve", inside.length <= 12, true);
        for (Class<?> one : inside) {
            due.is(one.getName() + " is static", Modifier.isStatic(one.getModifiers()), true);
            looksAtFields(one);
            for (Method m : one.getDeclaredMethods()) {
                String named = ".* " + m.getName() + "\\(.*";
                due.is(m.getName() + " is a name of its own",
                        FACE.stream().anyMatch(call -> call.matches(named)), false);
            }
        }
        looksAtFields(CordlessHouse.class);
    }

    private static void looksAtFields(Class<?> one) {
        long fields = Arrays.stream(one.getDeclaredFields())
                .filter(f -> !Modifier.isStatic(f.getModifiers())).count();
        due.is(one.getName() + " has at most twenty fields", fields <= 20, true);
        for (Field field : one.getDeclaredFields()) {
            boolean constant = !Modifier.isStatic(field.getModifiers())
                    || Modifier.isFinal(field.getModifiers());
            due.is(field.getName() + " is final if static", constant, true);
        }
        for (Method m : one.getDeclaredMethods()) {
            due.is(m.getName() + " takes at most seven", m.getParameterCount() <= 7, true);
        }
    }

    /** A method begins with a line that ends in ") {" and is no statement, and ends at its indent. */
    private static void lengths() throws IOException {
        due.about("rule 11, lengths");
        int begun = -1;
        String indent = "";
        List<String> lines = Files.readAllLines(SOURCE);
        Pattern head = Pattern.compile("( {4}| {8})(?! )(?!if|for|while|switch).*\\) \\{");
        for (int i = 0; i < lines.size(); i++) {
            Matcher matcher = head.matcher(lines.get(i));
            if (begun < 0 && matcher.matches()) {
                begun = i;
                indent = matcher.group(1);
            } else if (begun >= 0 && lines.get(i).equals(indent + "}")) {
                due.is(lines.get(begun).trim() + " is short", i - begun <= 60, true);
                begun = -1;
            }
        }
    }
}
