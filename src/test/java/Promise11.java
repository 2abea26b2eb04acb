/** Promise 11: reader. */
final class Promise11 {
    private static final String MANY = "Returns how many there are then";
    private static final String OUT = "person is out of range";
    private static final String NO_DRAFT = "the paper has no draft";
    private static final String NAMED = "the person is named";
    private static final String UNTIL = "Readers can be named until it is in force";

    private Promise11() {
    }

    static void tests(Book book) {
        book.promise(11, "reader");
        Edges.paper(book, Keepers::drafts, (x, paper) -> x.reader(paper, 2));
        Edges.range(book, "person", "person: 0 to 5", OUT, 0, 5,
            () -> Keepers.withDraft(1), (x, person) -> x.reader(0, person));
        book.test(MANY, "the first", () -> Expect.same("reader(0, 5)", Keepers.withDraft().reader(0, 5), 1));
        book.test(MANY, "1 to 6, all persons", Promise11::oneToSix);
        book.test(MANY, "reviewers do not count",
            () -> Expect.same("reader(0, 5)", Keepers.withDraft(1, 2, 3).reader(0, 5), 1));
        book.test(MANY, "those who have confirmed count", Promise11::confirmedCount);
        book.test("It has reviewers, at most 4, in the order in which they were named, and readers",
            "readers beside 4 reviewers", Promise11::besideFour);
        book.test("Names a reader", "the author, who has no role", Promise11::author);
        book.test("Names a reader", "a reviewer", () -> Expect.same("the call", Keepers.withDraft(1).reader(0, 1), 1));
        noDraft(book);
        named(book);
        until(book);
        order(book);
    }

    private static void noDraft(Book book) {
        book.refused(NO_DRAFT, "a new paper", Expect.STATE, () -> Keepers.papers(1), x -> x.reader(0, 1));
        book.refused(NO_DRAFT, "it was dropped", Expect.STATE, Promise11::dropped, x -> x.reader(0, 3));
        book.refused(NO_DRAFT, "another paper has one", Expect.STATE, Keepers::midway, x -> x.reader(2, 3));
    }

    private static void named(Book book) {
        for (int person : new int[] {0, 5}) {
            book.refused(NAMED, "person " + person, Expect.STATE,
                () -> Keepers.approvedFor(5, 0, 5), x -> x.reader(0, person));
        }
        for (int person = 0; person < 6; person++) {
            int each = person;
            book.refused(NAMED, "all are, and " + person + " again", Expect.STATE,
                () -> Keepers.approvedFor(5, 0, 1, 2, 3, 4, 5), x -> x.reader(0, each));
        }
        book.refused(NAMED, "who has confirmed", Expect.STATE, Keepers::midway, x -> x.reader(0, 3));
        book.refused(NAMED, "in the round before", Expect.STATE, Promise11::changed, x -> x.reader(0, 4));
        book.test(NAMED, "for a draft that was dropped: allowed", Promise11::namedForDropped);
        book.test(NAMED, "for another paper: allowed", Promise11::namedForAnother);
    }

    private static void until(Book book) {
        book.test(UNTIL, "before the round has reviewers", Promise11::beforeReviewers);
        book.test(UNTIL, "in its round", () -> Expect.same("the call", Keepers.withDraft(1).reader(0, 5), 1));
        book.test(UNTIL, "behind its round", () -> Expect.same("the call", Keepers.reviewed().reader(0, 5), 1));
        book.test(UNTIL, "behind its approval", () -> Expect.same("the call", Keepers.approvedFor(2).reader(0, 5), 1));
        book.test(UNTIL, "on the day before it would come, which it puts off", Promise11::dayBefore);
        book.test(UNTIL, "when the told day has gone by", Promise11::toldDayGoneBy);
        book.refused(UNTIL, "not when it is in force", Expect.STATE, () -> Keepers.inForce(1), x -> x.reader(0, 5));
    }

    private static void order(Book book) {
        book.refused(Book.FIRST, "no such paper, and person 6", Expect.INDEX,
            () -> Keepers.drafts(1), x -> x.reader(1, 6));
        book.refused(Book.FIRST, "person 6, and no draft", Expect.ARGUMENT, () -> Keepers.papers(1),
            x -> x.reader(0, 6));
        book.refused(Book.FIRST, "person -1, and no draft", Expect.ARGUMENT, () -> Keepers.papers(1),
            x -> x.reader(0, -1));
    }

    private static PaperKeeper dropped() {
        PaperKeeper x = Keepers.approved(1);
        x.drop(0);
        return x;
    }

    private static PaperKeeper changed() {
        PaperKeeper x = Keepers.approved(1);
        x.change(0, 11);
        return x;
    }

    private static void oneToSix() {
        PaperKeeper x = Keepers.withDraft();
        int[] persons = {3, 5, 0, 4, 1, 2};
        for (int i = 0; i < 6; i++) {
            Expect.same("reader(0, " + persons[i] + ")", x.reader(0, persons[i]), i + 1);
        }
    }

    private static void confirmedCount() {
        PaperKeeper x = Keepers.approvedFor(3, 4);
        x.confirm(0, 4);
        Expect.same("reader(0, 5)", x.reader(0, 5), 2);
    }

    private static void besideFour() {
        PaperKeeper x = Keepers.withDraft(1, 2, 3, 4);
        Expect.same("reader(0, 1)", x.reader(0, 1), 1);
        Expect.same("reader(0, 5)", x.reader(0, 5), 2);
    }

    private static void author() {
        PaperKeeper x = Keepers.withDraft();
        x.setRoles(0, false, false);
        Expect.same("reader(0, 0)", x.reader(0, 0), 1);
    }

    private static void namedForDropped() {
        PaperKeeper x = dropped();
        x.draft(0, 0, 10);
        Expect.same("reader(0, 4)", x.reader(0, 4), 1);
    }

    private static void namedForAnother() {
        PaperKeeper x = Keepers.drafts(2);
        x.reader(0, 5);
        Expect.same("reader(1, 5)", x.reader(1, 5), 1);
    }

    private static void beforeReviewers() {
        PaperKeeper x = Keepers.withDraft();
        Expect.same("reader(0, 5)", x.reader(0, 5), 1);
        Expect.same("step(0)", x.step(0), 1);
    }

    private static void dayBefore() {
        PaperKeeper x = Keepers.approvedFor(1);
        Expect.same("step(0) before", x.step(0), 5);
        Expect.same("reader(0, 5)", x.reader(0, 5), 1);
        Expect.same("step(0)", x.step(0), 4);
        Expect.same("pass(1)", x.pass(1), 0);
    }

    private static void toldDayGoneBy() {
        PaperKeeper x = Keepers.approvedFor(1, 4);
        x.pass(5);
        Expect.same("reader(0, 5)", x.reader(0, 5), 2);
        x.confirm(0, 4);
        Expect.same("pass(1)", x.pass(1), 0);
        x.confirm(0, 5);
        Expect.same("pass(1), all having confirmed", x.pass(1), 1);
    }
}
