/** Promise 9: drop. */
final class Promise09 {
    private static final String TEXT = "Returns its text";
    private static final String NO_DRAFT = "the paper has no draft";
    private static final String DROPS = "Drops a draft";

    private Promise09() {
    }

    static void tests(Book book) {
        book.promise(9, "drop");
        Edges.paper(book, Keepers::drafts, PaperKeeper::drop);
        book.test(TEXT, "0, the least", () -> returns(0));
        book.test(TEXT, "9999, the last", () -> returns(9999));
        book.test(TEXT, "the text it was changed to", Promise09::changedText);
        book.test(TEXT, "of the draft, not of the version in force", Promise09::notInForce);
        book.refused(NO_DRAFT, "a new paper", Expect.STATE, () -> Keepers.papers(1), x -> x.drop(0));
        book.refused(NO_DRAFT, "it was dropped", Expect.STATE, Promise09::dropped, x -> x.drop(0));
        book.refused(NO_DRAFT, "it came into force", Expect.STATE, () -> Keepers.inForce(1), x -> x.drop(0));
        book.refused(NO_DRAFT, "another paper has one", Expect.STATE, Keepers::midway, x -> x.drop(2));
        book.refused(Book.FIRST, "no such paper, which has no draft either", Expect.INDEX,
            () -> Keepers.papers(1), x -> x.drop(1));
        book.test(DROPS, "the paper has none then", Promise09::hasNone);
        book.test(DROPS, "one that waits for its day does not come into force", Promise09::doesNotCome);
        book.test(DROPS, "the version in force stays", Promise09::versionStays);
        book.test(DROPS, "a look that is due stays due", Promise09::lookStays);
        book.test(DROPS, "the right one of 8", Promise09::rightOne);
    }

    private static void returns(int text) {
        PaperKeeper x = Keepers.papers(1);
        x.draft(0, 0, text);
        Expect.same("drop(0)", x.drop(0), text);
    }

    private static void changedText() {
        PaperKeeper x = Keepers.drafts(1);
        x.change(0, 11);
        x.change(0, 12);
        Expect.same("drop(0)", x.drop(0), 12);
    }

    private static void notInForce() {
        PaperKeeper x = Keepers.inForce(1);
        x.draft(0, 0, 20);
        Expect.same("drop(0)", x.drop(0), 20);
    }

    private static PaperKeeper dropped() {
        PaperKeeper x = Keepers.approved(1);
        x.drop(0);
        return x;
    }

    private static void hasNone() {
        PaperKeeper x = dropped();
        Expect.same("step(0)", x.step(0), 0);
        Expect.same("waitsFor(0)", x.waitsFor(0), -1);
        Expect.fails("reader(0, 5)", Expect.STATE, () -> x.reader(0, 5));
    }

    private static void doesNotCome() {
        PaperKeeper x = Keepers.approvedFor(1);
        x.drop(0);
        Expect.same("pass(1)", x.pass(1), 0);
        Expect.same("inForce(0)", x.inForce(0), -1);
    }

    private static void versionStays() {
        PaperKeeper x = Keepers.inForce(1);
        x.draft(0, 0, 20);
        x.drop(0);
        Expect.same("inForce(0)", x.inForce(0), 0);
        Expect.same("text(0)", x.text(0), 10);
    }

    private static void lookStays() {
        PaperKeeper x = Keepers.inForce(2);
        x.hang(0, 1);
        Keepers.renew(x, 1, 20);
        x.draft(0, 0, 20);
        x.drop(0);
        Expect.same("isDue(0)", x.isDue(0), true);
    }

    private static void rightOne() {
        PaperKeeper x = Keepers.drafts(8);
        x.drop(7);
        x.drop(0);
        for (int paper = 0; paper < 8; paper++) {
            Expect.same("step(" + paper + ")", x.step(paper), paper == 7 || paper == 0 ? 0 : 1);
        }
    }
}
