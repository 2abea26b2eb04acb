import java.nio.file.Path;
import java.util.ArrayList;
import java.util.List;

/** README.md: its example is the one below, and answers as it says; each call of the face is told there. */
public final class ReadmeTest {
    private static final Path SELF = Path.of("src/test/java/ReadmeTest.java");

    public static void main(String[] args) {
        sameExample();
        example();
        eachCall();
        tests();
        Expect.close("ReadmeTest");
    }

    private static String withoutRemark(String row) {
        return row.replaceAll("//.*", "").trim();
    }

    /** The example's rows stand here too, in their order; answers are compared here behind them. */
    private static void sameExample() {
        List<String> here = new ArrayList<>();
        for (String row : Texts.rows(SELF)) {
            here.add(row.trim().replaceAll("^Expect.same\\(\"[^\"]*\", (.*), \\d+\\);$", "$1;"));
        }
        int at = here.indexOf("private static void example() {");
        for (String row : Texts.firstJava(Texts.README)) {
            at++;
            Expect.same("the example's row here", here.get(at), withoutRemark(row));
        }
        Expect.same("behind the example's last row", here.get(at + 1), "}");
    }

    private static void example() {
        PaperKeeper keeper = new PaperKeeper();
        int paper = keeper.open(true);
        keeper.setRoles(1, true, false);
        keeper.setRoles(2, false, true);
        keeper.draft(paper, 0, 1234);
        keeper.reviewer(paper, 1);
        Expect.same("with remark", keeper.review(paper, 1, true), 0);
        keeper.answer(paper, 0);
        keeper.approve(paper, 2, 3);
        keeper.reader(paper, 4);
        keeper.confirm(paper, 4);
        Expect.same("a version comes into force", keeper.pass(3), 1);
        Expect.same("its text", keeper.text(paper), 1234);
    }

    private static void eachCall() {
        List<String> readme = Texts.rows(Texts.README);
        for (String head : Texts.face()) {
            String call = Texts.call(head).replaceAll("(int|boolean) ", "");
            boolean told = head.contains(" PaperKeeper(")
                ? Texts.oneLine(readme).contains("new " + call)
                : readme.stream().anyMatch(row -> row.startsWith("| `" + call + "` | "));
            Expect.same("README.md tells what " + call + " is for", told, true);
        }
    }

    private static void tests() {
        String readme = Texts.oneLine(Texts.rows(Texts.README));
        String[] names = SELF.getParent().toFile().list((folder, name) -> name.endsWith("Test.java"));
        for (String name : names) {
            Expect.same("README.md tells of " + name, readme.contains("| `" + name.replace(".java", "") + "` | "), true);
        }
        Expect.same("README.md tells how to run the tests", readme.contains("`.ci/run`"), true);
    }
}
