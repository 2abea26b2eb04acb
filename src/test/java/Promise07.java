/** Promise 7: draft. */
final class Promise07 {
    private static final String OUT = "author or text is out of range";
    private static final String HAS = "the paper has a draft";
    private static final String ONE = "A paper has at most one, with an author and a text";
    private static final String BEGINS = "Begins a draft";

    private Promise07() {
    }

    static void tests(Book book) {
        book.promise(7, "draft");
        arguments(book);
        book.test("text: 0 to 9999", "0 is its text", () -> textOf(0));
        book.test("text: 0 to 9999", "9999 is its text", () -> textOf(9999));
        book.test("author: 0 to 5", "0 is its author", () -> authorOf(0));
        book.test("author: 0 to 5", "5 is its author", () -> authorOf(5));
        book.test("author: 0 to 5", "one without a role", Promise07::authorWithoutRole);
        hasADraft(book);
        order(book);
        book.test(BEGINS, "no reviewers are there yet", Promise07::noReviewers);
        book.test(BEGINS, "no readers are there yet", Promise07::noReaders);
        book.test(BEGINS, "no reviews and no remarks are there yet", Promise07::noRemarks);
        book.test(BEGINS, "it is not approved", Promise07::notApproved);
        book.test(BEGINS, "no confirmations are there yet", Promise07::noConfirmations);
        book.test(BEGINS, "what is in force stays", Promise07::whatIsInForceStays);
        book.test(ONE, "each of 8 papers its own", Promise07::eachItsOwn);
    }

    private static void arguments(Book book) {
        Edges.paper(book, Keepers::papers, (x, paper) -> x.draft(paper, 0, 10));
        Edges.range(book, "author", "author: 0 to 5", OUT, 0, 5, () -> Keepers.papers(1), (x, a) -> x.draft(0, a, 10));
        Edges.range(book, "text", "text: 0 to 9999", OUT, 0, 9999, () -> Keepers.papers(1), (x, t) -> x.draft(0, 0, t));
        book.refused(OUT, "both", Expect.ARGUMENT, () -> Keepers.papers(1), x -> x.draft(0, 6, 10000));
        book.refused(OUT, "author 6 of the last of 8", Expect.ARGUMENT, () -> Keepers.papers(8), x -> x.draft(7, 6, 0));
    }

    private static void hasADraft(Book book) {
        book.refused(HAS, "just begun", Expect.STATE, () -> Keepers.withDraft(), x -> x.draft(0, 1, 11));
        book.refused(HAS, "the same author and text", Expect.STATE, () -> Keepers.withDraft(), x -> x.draft(0, 0, 10));
        book.refused(HAS, "in its round", Expect.STATE, Keepers::midway, x -> x.draft(1, 2, 12));
        book.refused(HAS, "approved", Expect.STATE, Keepers::midway, x -> x.draft(0, 2, 12));
        book.refused(HAS, "waiting for its day", Expect.STATE, () -> Keepers.approvedFor(3), x -> x.draft(0, 2, 12));
        book.test(HAS, "allowed when it was dropped", Promise07::whenDropped);
        book.test(HAS, "allowed when it came into force", Promise07::whenInForce);
        book.test(HAS, "allowed when another paper has one", Promise07::whenAnotherHas);
    }

    private static void order(Book book) {
        book.refused(Book.FIRST, "no such paper, and author 6", Expect.INDEX,
            () -> Keepers.papers(1), x -> x.draft(1, 6, 10));
        book.refused(Book.FIRST, "no such paper, and text -1", Expect.INDEX,
            () -> Keepers.papers(1), x -> x.draft(-1, 0, -1));
        book.refused(Book.FIRST, "author -1, and there is a draft", Expect.ARGUMENT,
            () -> Keepers.withDraft(), x -> x.draft(0, -1, 11));
        book.refused(Book.FIRST, "text 10000, and there is a draft", Expect.ARGUMENT,
            () -> Keepers.withDraft(), x -> x.draft(0, 0, 10000));
    }

    private static void textOf(int text) {
        PaperKeeper x = Keepers.papers(1);
        x.draft(0, 3, text);
        Expect.same("drop(0)", x.drop(0), text);
    }

    /** All but the author can be named as reviewers. */
    private static void authorOf(int author) {
        for (int person = 0; person < 6; person++) {
            int each = person;
            PaperKeeper x = Keepers.papers(1);
            x.draft(0, author, 10);
            String due = person == author ? "IllegalStateException" : "nothing";
            Expect.same("reviewer(0, " + person + ")", Expect.thrownBy(() -> x.reviewer(0, each)), due);
        }
    }

    private static void authorWithoutRole() {
        PaperKeeper x = new PaperKeeper();
        x.open(false);
        Expect.passes("draft(0, 3, 10)", () -> x.draft(0, 3, 10));
    }

    private static void whenDropped() {
        PaperKeeper x = Keepers.withDraft();
        x.drop(0);
        x.draft(0, 1, 11);
        Expect.same("drop(0)", x.drop(0), 11);
    }

    private static void whenInForce() {
        PaperKeeper x = Keepers.approvedFor(1);
        x.pass(1);
        x.draft(0, 1, 10);
        Expect.same("step(0)", x.step(0), 1);
    }

    private static void whenAnotherHas() {
        PaperKeeper x = Keepers.papers(2);
        x.draft(0, 0, 10);
        Expect.passes("draft(1, 0, 10)", () -> x.draft(1, 0, 10));
    }

    /** A draft of person 1 behind one that had a reviewer, a remark, readers, an approval and a confirmation. */
    private static PaperKeeper second() {
        PaperKeeper x = Keepers.approved(1);
        x.confirm(0, 4);
        x.drop(0);
        x.draft(0, 5, 11);
        return x;
    }

    private static void noReviewers() {
        PaperKeeper x = second();
        Expect.same("step(0)", x.step(0), 1);
        Expect.same("waitsFor(0)", x.waitsFor(0), -1);
        Expect.fails("review(0, 1, false)", Expect.STATE, () -> x.review(0, 1, false));
        Expect.same("reviewer(0, 1)", x.reviewer(0, 1), 1);
    }

    private static void noReaders() {
        PaperKeeper x = second();
        Expect.same("reader(0, 4)", x.reader(0, 4), 1);
        PaperKeeper all = Keepers.approvedFor(5, 0, 1, 2, 3, 4, 5);
        all.drop(0);
        all.draft(0, 0, 11);
        for (int person = 0; person < 6; person++) {
            Expect.same("reader(0, " + person + ")", all.reader(0, person), person + 1);
        }
    }

    private static void noRemarks() {
        PaperKeeper x = second();
        Expect.fails("answer(0, 0)", Expect.INDEX, () -> x.answer(0, 0));
        x.reviewer(0, 1);
        Expect.same("waitsFor(0)", x.waitsFor(0), 1);
        Expect.same("review(0, 1, true)", x.review(0, 1, true), 0);
        Expect.same("step(0)", x.step(0), 2);
    }

    private static void notApproved() {
        PaperKeeper x = second();
        x.reviewer(0, 1);
        x.review(0, 1, false);
        Expect.same("step(0)", x.step(0), 3);
        Expect.same("pass(6)", x.pass(6), 0);
        Expect.passes("approve(0, 2, 7)", () -> x.approve(0, 2, 7));
    }

    private static void noConfirmations() {
        PaperKeeper x = second();
        x.reader(0, 4);
        x.reviewer(0, 1);
        x.review(0, 1, false);
        x.approve(0, 2, 1);
        Expect.same("step(0)", x.step(0), 4);
        Expect.same("confirm(0, 4)", x.confirm(0, 4), 0);
    }

    private static void whatIsInForceStays() {
        PaperKeeper x = Keepers.inForce(1);
        x.draft(0, 1, 99);
        Expect.same("inForce(0)", x.inForce(0), 0);
        Expect.same("text(0)", x.text(0), 10);
    }

    private static void eachItsOwn() {
        PaperKeeper x = Keepers.papers(8);
        for (int paper = 0; paper < 8; paper++) {
            x.draft(paper, paper % 6, 100 + paper);
        }
        for (int paper = 0; paper < 8; paper++) {
            int each = paper;
            Expect.fails("reviewer of its author", Expect.STATE, () -> x.reviewer(each, each % 6));
            Expect.same("drop(" + paper + ")", x.drop(paper), 100 + paper);
        }
    }
}
