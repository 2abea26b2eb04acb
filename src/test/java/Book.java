import java.util.ArrayList;
import java.util.HashSet;
import java.util.List;
import java.util.Map;
import java.util.Set;
import java.util.TreeMap;
import java.util.function.Consumer;
import java.util.function.Supplier;

/**
 * The document and the tests of its sentences: a test bears the number of its promise and quotes the sentence that it
 * holds to, which must stand in the promise's section or in one of those that speak of all calls. At the end each
 * sentence must have been quoted as a whole.
 */
final class Book {
    static final String NOTHING = "When a call throws, nothing has changed";
    static final String FIRST = "of several exceptions it is the first one of the throws clause";

    private static final int PROMISES = 28;
    /** How those sentences of "Terms" begin that say nothing of a call's answer. */
    private static final List<String> TITLES = List.of(
        "Callers act for persons", "Ahead of the calls", "A draft.", "Looks.");

    private final Map<String, List<Line>> sections = new TreeMap<>();
    private final Set<String> names = new HashSet<>();
    private final Set<String> quotesOfPromises = new HashSet<>();
    private final Map<Integer, Integer> counts = new TreeMap<>();
    private String section = "";
    private String call = "";
    private int promise;

    /** A sentence of the document, and which of its characters were quoted. */
    private static final class Line {
        final String text;
        final boolean[] quoted;

        Line(String text) {
            this.text = text;
            this.quoted = new boolean[text.length()];
        }

        boolean quote(String words) {
            int from = text.indexOf(words);
            boolean found = from >= 0;
            while (from >= 0) {
                for (int i = 0; i < words.length(); i++) {
                    quoted[from + i] = true;
                }
                from = text.indexOf(words, from + 1);
            }
            return found;
        }

        /** What no test quotes, but for words and signs that only join. */
        String leftOver() {
            StringBuilder left = new StringBuilder();
            for (int i = 0; i < quoted.length; i++) {
                left.append(quoted[i] ? ' ' : text.charAt(i));
            }
            return left.toString().replaceAll("Throws \\w+|\\b(if|or|and)\\b|[,;:.()]", " ").trim();
        }
    }

    Book() {
        String name = "";
        for (String row : Texts.rows(Texts.DOCUMENT)) {
            if (row.startsWith("## ")) {
                name = row.substring(3).replaceAll(":.*", "");
                sections.put(name, new ArrayList<>());
            } else if (!name.isEmpty()) {
                read(sections.get(name), row.replace("`", "").replaceAll("^- ", "").trim());
            }
        }
    }

    /** The names of a promise's arguments and exceptions are no sentence; what it says of its call stands behind. */
    private static void read(List<Line> lines, String row) {
        String said = row.matches("[^.]*\\w\\(.*") ? row.replaceAll("^[^:]*: ", "") : row;
        for (String sentence : said.split("(?<=\\.) ")) {
            if (!sentence.isEmpty()) {
                lines.add(new Line(sentence));
            }
        }
    }

    /** The tests that follow are of this promise. */
    void promise(int number, String name) {
        promise = number;
        section = "Promise " + number;
        call = name;
    }

    void test(String sentence, String name, Runnable body) {
        String full = section + ", " + call + ", \"" + sentence + "\": " + name;
        counts.merge(promise, 1, Integer::sum);
        Expect.test(full, () -> {
            Expect.same("being the only one of this name", names.add(full), true);
            Expect.same("finding its sentence in the document", quote(sentence), true);
            body.run();
        });
    }

    /** Two tests: the call throws just this exception; and what follows is as if it had not been made. */
    void refused(String sentence, String name, Class<?> due, Supplier<PaperKeeper> made, Consumer<PaperKeeper> body) {
        test(sentence, name, () -> {
            PaperKeeper x = made.get();
            Expect.fails("the call", due, () -> body.accept(x));
        });
        test(NOTHING, name + " (" + sentence + ")", () -> {
            Expect.same("what follows", Whole.difference(made, x -> Expect.thrownBy(() -> body.accept(x))), "the same");
        });
    }

    private boolean quote(String words) {
        quotesOfPromises.add(section + words);
        for (String name : List.of(section, "Terms", "What it is")) {
            for (Line line : sections.get(name)) {
                if (line.quote(words)) {
                    return true;
                }
            }
        }
        return false;
    }

    /** Each sentence of the document must have been quoted by now, from its first word to its last. */
    void close() {
        for (int number = 1; number <= PROMISES; number++) {
            closePromise("Promise " + number);
        }
        for (Line line : sections.get("Terms")) {
            if (TITLES.stream().noneMatch(line.text::startsWith)) {
                Expect.same("Terms, what no test quotes of \"" + line.text + "\"", line.leftOver(), "");
            }
        }
        System.out.println("tests of each promise: " + counts);
    }

    private void closePromise(String name) {
        int exceptions = 0;
        for (Line line : sections.get(name)) {
            Expect.same(name + ", what no test quotes of \"" + line.text + "\"", line.leftOver(), "");
            exceptions += line.text.startsWith("Throws ") ? 1 : 0;
        }
        Expect.same(name + " has a test of: " + NOTHING, quotesOfPromises.contains(name + NOTHING), exceptions > 0);
        Expect.same(name + " has a test of: " + FIRST, quotesOfPromises.contains(name + FIRST), exceptions > 1);
    }
}
