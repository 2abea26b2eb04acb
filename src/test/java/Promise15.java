/** Promise 15: confirm. */
final class Promise15 {
    private static final String OUT = "person is out of range";
    private static final String MANY = "Returns how many readers have not confirmed it then";
    private static final String NO_DRAFT = "the paper has no draft";
    private static final String NOT_APPROVED = "it is not approved";
    private static final String NO_READER = "the person is no reader of it";
    private static final String CONFIRMED = "has confirmed it";
    private static final String THEN = "Then its readers can confirm it";

    private Promise15() {
    }

    static void tests(Book book) {
        book.promise(15, "confirm");
        Edges.paper(book, Keepers::approved, (x, paper) -> x.confirm(paper, 4));
        Edges.range(book, "person", "person: 0 to 5", OUT, 0, 5,
            () -> Keepers.approvedFor(5, 0, 5), (x, person) -> x.confirm(0, person));
        book.test(MANY, "0, the only one", () -> Expect.same("the call", Keepers.approvedFor(5, 4).confirm(0, 4), 0));
        book.test(MANY, "5 to 0, in any order", Promise15::fiveToZero);
        book.test(MANY, "one who was named later counts", Promise15::laterCounts);
        noDraft(book);
        notApproved(book);
        noReader(book);
        confirmed(book);
        order(book);
        then(book);
    }

    private static void noDraft(Book book) {
        book.refused(NO_DRAFT, "a new paper", Expect.STATE, () -> Keepers.papers(1), x -> x.confirm(0, 4));
        book.refused(NO_DRAFT, "it was dropped", Expect.STATE, Promise15::dropped, x -> x.confirm(0, 4));
        book.refused(NO_DRAFT, "it came into force", Expect.STATE, Promise15::cameIntoForce, x -> x.confirm(0, 4));
        book.refused(NO_DRAFT, "another paper has one", Expect.STATE, Keepers::midway, x -> x.confirm(2, 4));
    }

    private static void notApproved(Book book) {
        book.refused(NOT_APPROVED, "in its round", Expect.STATE, Keepers::midway, x -> x.confirm(1, 3));
        book.refused(NOT_APPROVED, "behind its round", Expect.STATE, () -> Keepers.answered(1), x -> x.confirm(0, 4));
        book.refused(NOT_APPROVED, "the text was changed", Expect.STATE, Promise15::changed, x -> x.confirm(0, 4));
        book.refused(NOT_APPROVED, "the text was changed, the round is over", Expect.STATE,
            Promise15::changedAndReviewed, x -> x.confirm(0, 4));
    }

    private static void noReader(Book book) {
        book.refused(NO_READER, "there are none", Expect.STATE, () -> Keepers.approvedFor(5), x -> x.confirm(0, 4));
        book.refused(NO_READER, "all others are", Expect.STATE,
            () -> Keepers.approvedFor(5, 0, 1, 2, 3, 4), x -> x.confirm(0, 5));
        book.refused(NO_READER, "a reviewer", Expect.STATE, () -> Keepers.approved(1), x -> x.confirm(0, 1));
        book.refused(NO_READER, "the author", Expect.STATE, () -> Keepers.approved(1), x -> x.confirm(0, 0));
        book.refused(NO_READER, "a reader's deputy", Expect.STATE, Promise15::withDeputy, x -> x.confirm(0, 5));
        book.refused(NO_READER, "a reader of the draft before", Expect.STATE,
            Promise15::secondDraft, x -> x.confirm(0, 4));
    }

    private static void confirmed(Book book) {
        book.refused(CONFIRMED, "the only one", Expect.STATE, Promise15::allConfirmed, x -> x.confirm(0, 4));
        book.refused(CONFIRMED, "another not having confirmed", Expect.STATE, Keepers::midway, x -> x.confirm(0, 3));
        book.test(CONFIRMED, "in the round before: allowed", Promise15::inTheRoundBefore);
    }

    private static void order(Book book) {
        book.refused(Book.FIRST, "no such paper, and person 6", Expect.INDEX,
            () -> Keepers.approved(1), x -> x.confirm(1, 6));
        book.refused(Book.FIRST, "person 6, and no draft", Expect.ARGUMENT,
            () -> Keepers.papers(1), x -> x.confirm(0, 6));
        book.refused(Book.FIRST, "person -1, and it is not approved", Expect.ARGUMENT,
            () -> Keepers.answered(1), x -> x.confirm(0, -1));
    }

    private static void then(Book book) {
        book.test(THEN, "a reader who was named before the approval", Promise15::namedBefore);
        book.test(THEN, "a reader who was named behind the approval", Promise15::namedBehind);
        book.test(THEN, "on the told day and later", Promise15::onTheToldDay);
        book.test(THEN, "the author, being a reader", Promise15::authorReads);
        book.test("Confirms a draft that is approved", "the right paper of 8", Promise15::rightPaper);
    }

    private static PaperKeeper dropped() {
        PaperKeeper x = Keepers.approved(1);
        x.drop(0);
        return x;
    }

    private static PaperKeeper secondDraft() {
        PaperKeeper x = dropped();
        Keepers.approve(x, 0, 11, 5);
        return x;
    }

    private static PaperKeeper allConfirmed() {
        PaperKeeper x = Keepers.approved(1);
        x.confirm(0, 4);
        return x;
    }

    private static PaperKeeper cameIntoForce() {
        PaperKeeper x = allConfirmed();
        x.pass(5);
        return x;
    }

    private static PaperKeeper changed() {
        PaperKeeper x = Keepers.approved(1);
        x.change(0, 11);
        return x;
    }

    private static PaperKeeper changedAndReviewed() {
        PaperKeeper x = changed();
        x.review(0, 1, false);
        return x;
    }

    private static PaperKeeper withDeputy() {
        PaperKeeper x = Keepers.approved(1);
        x.setDeputy(4, 5);
        return x;
    }

    private static void fiveToZero() {
        PaperKeeper x = Keepers.approvedFor(5, 0, 1, 2, 3, 4, 5);
        int[] persons = {3, 5, 0, 4, 1, 2};
        for (int i = 0; i < 6; i++) {
            Expect.same("confirm(0, " + persons[i] + ")", x.confirm(0, persons[i]), 5 - i);
        }
    }

    private static void laterCounts() {
        PaperKeeper x = Keepers.approvedFor(5, 4);
        x.reader(0, 2);
        Expect.same("confirm(0, 4)", x.confirm(0, 4), 1);
        x.reader(0, 3);
        Expect.same("confirm(0, 2)", x.confirm(0, 2), 1);
    }

    private static void inTheRoundBefore() {
        PaperKeeper x = allConfirmed();
        x.change(0, 11);
        x.review(0, 1, false);
        x.approve(0, 2, 5);
        Expect.same("confirm(0, 4)", x.confirm(0, 4), 0);
        Expect.fails("confirm(0, 4) again", Expect.STATE, () -> x.confirm(0, 4));
    }

    private static void namedBefore() {
        PaperKeeper x = Keepers.approvedFor(5, 4);
        Expect.same("step(0)", x.step(0), 4);
        Expect.same("confirm(0, 4)", x.confirm(0, 4), 0);
        Expect.same("step(0)", x.step(0), 5);
    }

    private static void namedBehind() {
        PaperKeeper x = Keepers.approvedFor(5);
        x.reader(0, 4);
        Expect.same("confirm(0, 4)", x.confirm(0, 4), 0);
    }

    private static void onTheToldDay() {
        PaperKeeper x = Keepers.approvedFor(5, 3, 4);
        x.pass(5);
        Expect.same("confirm(0, 3) on it", x.confirm(0, 3), 1);
        x.pass(40);
        Expect.same("confirm(0, 4) later", x.confirm(0, 4), 0);
    }

    private static void authorReads() {
        PaperKeeper x = Keepers.approvedFor(5, 0);
        Expect.same("confirm(0, 0)", x.confirm(0, 0), 0);
    }

    private static void rightPaper() {
        PaperKeeper x = Keepers.approved(8);
        x.confirm(7, 4);
        x.confirm(0, 4);
        for (int paper = 0; paper < 8; paper++) {
            Expect.same("step(" + paper + ")", x.step(paper), paper == 7 || paper == 0 ? 5 : 4);
        }
    }
}
