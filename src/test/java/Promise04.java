/** Promise 4: open. */
final class Promise04 {
    private static final String NUMBER = "Returns its number";
    private static final String FULL = "there are 8 papers";
    private static final String ORDER = "inOrder: whether it is reviewed in order";

    private Promise04() {
    }

    static void tests(Book book) {
        book.promise(4, "open");
        book.test(NUMBER, "the first is 0", () -> Expect.same("open(false)", new PaperKeeper().open(false), 0));
        book.test("Papers are numbered from 0 as they are opened, at most 8", "0 to 7, the eighth being the last",
            Promise04::eight);
        book.test(NUMBER, "a call that is refused uses no number", Promise04::refusedUsesNone);
        book.test(FULL, "with 7 one more is opened", () -> Expect.same("open(true)", Keepers.papers(7).open(true), 7));
        book.refused(FULL, "a ninth, in order", Expect.STATE, () -> Keepers.papers(8), x -> x.open(true));
        book.refused(FULL, "a ninth, side by side", Expect.STATE, () -> Keepers.approved(8), x -> x.open(false));
        book.refused(FULL, "a ninth, all being in force", Expect.STATE, () -> Keepers.inForce(8), x -> x.open(false));
        book.test("Opens a paper", "it is there only then", Promise04::thereOnlyThen);
        book.test("Opens a paper", "nothing is there yet", Promise04::nothingThereYet);
        book.test("Opens a paper", "the others stay", Promise04::othersStay);
        book.test(ORDER, "true: the second one must wait", () -> secondReviews(true, "IllegalStateException"));
        book.test(ORDER, "false: the second one need not wait", () -> secondReviews(false, "nothing"));
        book.test("a paper is reviewed in order, or side by side", "each of 8 papers as it was opened",
            Promise04::eachAsOpened);
    }

    private static void eight() {
        PaperKeeper x = new PaperKeeper();
        for (int number = 0; number < 8; number++) {
            Expect.same("open", x.open(number % 2 == 0), number);
        }
        Expect.fails("open(true)", Expect.STATE, () -> x.open(true));
        Expect.same("step(7)", x.step(7), 0);
        Expect.fails("step(8)", Expect.INDEX, () -> x.step(8));
    }

    private static void refusedUsesNone() {
        PaperKeeper x = new PaperKeeper();
        x.open(true);
        Expect.thrownBy(() -> x.step(1));
        Expect.thrownBy(() -> x.draft(1, 0, 0));
        Expect.same("open(true)", x.open(true), 1);
    }

    private static void thereOnlyThen() {
        PaperKeeper x = new PaperKeeper();
        for (int number = 0; number < 8; number++) {
            int next = number;
            Expect.fails("step before open", Expect.INDEX, () -> x.step(next));
            x.open(false);
            Expect.same("step behind open", x.step(number), 0);
        }
    }

    private static void nothingThereYet() {
        PaperKeeper x = Keepers.inForce(1);
        x.copy(0, 0);
        x.open(true);
        Expect.same("step(1)", x.step(1), 0);
        Expect.same("inForce(1)", x.inForce(1), -1);
        Expect.same("text(1)", x.text(1), -1);
        Expect.same("isDue(1)", x.isDue(1), false);
        Expect.same("outOfDate(1)", x.outOfDate(1), 0);
        Expect.same("waitsFor(1)", x.waitsFor(1), -1);
        Expect.fails("since(1, 0)", Expect.INDEX, () -> x.since(1, 0));
        Expect.same("hang(1, 0)", x.hang(1, 0), 1);
    }

    private static void othersStay() {
        PaperKeeper x = Keepers.approved(1);
        x.open(true);
        Expect.same("step(0)", x.step(0), 4);
        Expect.same("confirm(0, 4)", x.confirm(0, 4), 0);
        Expect.same("pass(5)", x.pass(5), 1);
    }

    private static void secondReviews(boolean inOrder, String due) {
        PaperKeeper x = Keepers.withDraftIn(inOrder, 1, 2);
        Expect.same("review(0, 2, false)", Expect.thrownBy(() -> x.review(0, 2, false)), due);
    }

    private static void eachAsOpened() {
        boolean[] inOrder = {true, false, false, true, false, true, true, false};
        PaperKeeper x = Keepers.withPapers(inOrder);
        for (int i = 0; i < 8; i++) {
            int paper = i;
            x.draft(paper, 0, 10);
            x.reviewer(paper, 1);
            x.reviewer(paper, 2);
            String due = inOrder[i] ? "IllegalStateException" : "nothing";
            Expect.same("second review of " + i, Expect.thrownBy(() -> x.review(paper, 2, false)), due);
        }
    }
}
