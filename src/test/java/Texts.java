import java.io.IOException;
import java.nio.file.Files;
import java.nio.file.Path;
import java.util.ArrayList;
import java.util.List;

/** The texts that tests hold the class to, and its own. */
final class Texts {
    static final Path DOCUMENT = Path.of("../shared/DOC.md");
    static final Path CLASS = Path.of("src/main/java/PaperKeeper.java");
    static final Path README = Path.of("README.md");

    private Texts() {
    }

    static List<String> rows(Path path) {
        try {
            return Files.readAllLines(path);
        } catch (IOException e) {
            throw new IllegalStateException("no text is at " + path, e);
        }
    }

    static String oneLine(List<String> rows) {
        return String.join(" ", rows).replaceAll("\\s+", " ");
    }

    /** The first piece of Java in a text, without what stands round it. */
    static List<String> firstJava(Path path) {
        List<String> rows = rows(path);
        int from = rows.indexOf("```java") + 1;
        int to = from;
        while (to < rows.size() && !rows.get(to).equals("```")) {
            to++;
        }
        return rows.subList(from, to);
    }

    /** The heads of the face's calls as the document writes them, without the sign at their end. */
    static List<String> face() {
        List<String> heads = new ArrayList<>();
        for (String row : firstJava(DOCUMENT)) {
            if (row.startsWith("    public ") && row.endsWith(";")) {
                heads.add(row.substring(0, row.length() - 1).trim());
            }
        }
        return heads;
    }

    /** What stands behind the type of a face's head: the call's name and, in brackets, its arguments. */
    static String call(String head) {
        int bracket = head.indexOf('(');
        return head.substring(head.lastIndexOf(' ', bracket) + 1, head.indexOf(')') + 1);
    }

    static String name(String head) {
        return call(head).replaceAll("\\(.*", "");
    }
}
