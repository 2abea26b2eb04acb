/** Promise 25: text. */
final class Promise25 {
    private static final String TEXT = "Returns the text that is in force, -1 if there is none";
    private static final String EACH = "each has a text, 0 to 9999";

    private Promise25() {
    }

    static void tests(Book book) {
        book.promise(25, "text");
        Edges.paper(book, Keepers::papers, PaperKeeper::text);
        book.test(TEXT, "-1, a new paper", () -> is(Keepers.papers(1), -1));
        book.test(TEXT, "-1, a draft", () -> is(Keepers.withDraft(1), -1));
        book.test(TEXT, "-1, on the day before the told one", () -> is(Keepers.onDay(Keepers.approvedFor(5), 4), -1));
        book.test(TEXT, "the draft's, on the told day", () -> is(Keepers.onDay(Keepers.approvedFor(5), 5), 10));
        book.test(TEXT, "the former one's, until the new one comes", Promise25::former);
        book.test(TEXT, "not the changed draft's", Promise25::notChanged);
        book.test(TEXT, "the text that the draft was changed to", Promise25::changedTo);
        book.test(EACH, "0, the least", () -> inForceWith(0));
        book.test(EACH, "9999, the last", () -> inForceWith(9999));
        book.test(EACH, "0 behind 9999, and 9999 behind 0", Promise25::oneBehindTheOther);
        book.test(EACH, "each of 8 papers its own", Promise25::eachItsOwn);
    }

    private static void is(PaperKeeper x, int due) {
        Expect.same("text(0)", x.text(0), due);
    }

    private static void former() {
        PaperKeeper x = Keepers.inForce(1);
        Keepers.approve(x, 0, 20, 5);
        x.pass(3);
        is(x, 10);
        x.pass(1);
        is(x, 20);
    }

    private static void notChanged() {
        PaperKeeper x = Keepers.inForce(1);
        x.draft(0, 0, 20);
        x.change(0, 30);
        is(x, 10);
        x.drop(0);
        is(x, 10);
    }

    private static void changedTo() {
        PaperKeeper x = Keepers.approvedFor(5);
        x.change(0, 30);
        x.review(0, 1, false);
        x.approve(0, 2, 1);
        x.pass(1);
        is(x, 30);
    }

    private static void inForceWith(int text) {
        PaperKeeper x = Keepers.papers(1);
        Keepers.renew(x, 0, text);
        is(x, text);
    }

    private static void oneBehindTheOther() {
        PaperKeeper x = Keepers.papers(1);
        for (int text : new int[] {9999, 0, 9999}) {
            Keepers.renew(x, 0, text);
            is(x, text);
        }
    }

    private static void eachItsOwn() {
        PaperKeeper x = Keepers.inForce(8);
        for (int paper = 0; paper < 8; paper++) {
            Expect.same("text(" + paper + ")", x.text(paper), 10 + paper);
        }
    }
}
