import java.io.IOException;
import java.nio.file.Files;
import java.nio.file.Path;
import java.util.Arrays;
import java.util.function.Supplier;
import java.util.function.ToLongFunction;

/**
 * Tests of single sentences. Each bears words of the document, which must stand in the section
 * that is told, so that a sentence that changes there is missed here.
 */
final class Edges {
    private static final Path DOCUMENT = Path.of("../shared/DOC.md");

    private final Due due;
    private final String document;
    private String title = "";
    private String section = "";

    Edges(Due due) throws IOException {
        this.due = due;
        document = Files.readString(DOCUMENT);
    }

    void section(String newTitle) {
        title = newTitle;
        section = "";
        for (String part : document.split("\n## ")) {
            if (part.startsWith(newTitle + "\n")) {
                section = part.replaceAll("\\s+", " ");
            }
        }
    }

    void edge(String words, Runnable test) {
        due.about(title + ", '" + words + "'");
        due.is("do these words stand in the document", section.contains(words), true);
        int before = due.looked();
        due.is("did no call throw", runs(test), true);
        due.is("was an answer looked at", due.looked() > before + 1, true);
    }

    private static boolean runs(Runnable test) {
        try {
            test.run();
            return true;
        } catch (RuntimeException e) {
            System.out.println(e);
            return false;
        }
    }

    /** The call answers the number; nothing changes but how many of these refusals there were. */
    void refuses(String call, Supplier<CordlessHouse> house, ToLongFunction<CordlessHouse> refused,
            int number) {
        answersOnly(call, house, refused, number, -number);
    }

    /** The call answers what is due, and nothing changes at all: it is no refusal. */
    void passes(String call, Supplier<CordlessHouse> house, ToLongFunction<CordlessHouse> passed,
            long answer) {
        answersOnly(call, house, passed, answer, 0);
    }

    private void answersOnly(String call, Supplier<CordlessHouse> house,
            ToLongFunction<CordlessHouse> asked, long answer, int refusal) {
        CordlessHouse x = house.get();
        int[] before = refusals(x);
        due.is(call, asked.applyAsLong(x), answer);
        int[] after = refusals(x);
        for (int why = 1; why <= 6; why++) {
            int more = why == refusal ? 1 : 0;
            due.is("refusals -" + why + " after " + call, after[why] - before[why], more);
        }
        Supplier<CordlessHouse> askedHouse = () -> {
            CordlessHouse y = house.get();
            asked.applyAsLong(y);
            return y;
        };
        due.is("is all as it was after " + call, sameSeen(house, askedHouse), true);
        due.is("is all as it was 9 frames after " + call,
                sameSeen(() -> later(house), () -> later(askedHouse)), true);
    }

    private static int[] refusals(CordlessHouse x) {
        int[] found = new int[7];
        for (int why = 1; why <= 6; why++) {
            found[why] = x.count(10 + why);
        }
        return found;
    }

    private static CordlessHouse later(Supplier<CordlessHouse> house) {
        CordlessHouse x = house.get();
        x.frames(9);
        return x;
    }

    private static boolean sameSeen(Supplier<CordlessHouse> one, Supplier<CordlessHouse> other) {
        return Arrays.equals(Seen.of(one), Seen.of(other));
    }
}
