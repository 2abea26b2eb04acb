/** Promise 10: reviewer. */
final class Promise10 {
    private static final String STAYS = "Names a reviewer, who stays one, whatever the person may later";
    private static final String MANY = "Returns how many there are then";
    private static final String OUT = "person is out of range";
    private static final String NO_DRAFT = "the paper has no draft";
    private static final String APPROVED = "it is approved";
    private static final String AUTHOR = "the person is the author";
    private static final String MAY_NOT = "may not review";
    private static final String NAMED = "is named";
    private static final String FOUR = "there are 4";
    private static final String UNTIL = "Naming one more reviewer is possible until it is approved";

    private Promise10() {
    }

    static void tests(Book book) {
        book.promise(10, "reviewer");
        Edges.paper(book, Keepers::drafts, (x, paper) -> x.reviewer(paper, 2));
        Edges.range(book, "person", "person: 0 to 5", OUT, 0, 5,
            () -> draftOf(3), (x, person) -> x.reviewer(0, person));
        counts(book);
        noDraft(book);
        until(book);
        whoMayNot(book);
        named(book);
        order(book);
        stays(book);
    }

    private static void counts(Book book) {
        book.test(MANY, "the first", () -> Expect.same("reviewer(0, 5)", draftOf(3).reviewer(0, 5), 1));
        book.test(MANY, "1 to 4", Promise10::oneToFour);
        book.test("It has reviewers, at most 4, in the order in which they were named", "the order", Promise10::order);
        book.test(FOUR, "with 3 one more is named",
            () -> Expect.same("reviewer(0, 5)", Keepers.withDraft(1, 2, 3).reviewer(0, 5), 4));
        book.refused(FOUR, "a fifth", Expect.STATE, () -> Keepers.withDraft(1, 2, 3, 4), x -> x.reviewer(0, 5));
        book.refused(FOUR, "a fifth, in order, two having reviewed", Expect.STATE,
            Promise10::fourInOrder, x -> x.reviewer(0, 5));
        book.test(MANY, "readers do not count", Promise10::readersDoNotCount);
    }

    private static void noDraft(Book book) {
        book.refused(NO_DRAFT, "a new paper", Expect.STATE, () -> Keepers.papers(1), x -> x.reviewer(0, 1));
        book.refused(NO_DRAFT, "it was dropped", Expect.STATE, Promise10::dropped, x -> x.reviewer(0, 3));
        book.refused(NO_DRAFT, "it came into force", Expect.STATE, () -> Keepers.inForce(1), x -> x.reviewer(0, 3));
        book.refused(NO_DRAFT, "another paper has one", Expect.STATE, Keepers::midway, x -> x.reviewer(2, 3));
    }

    private static void until(Book book) {
        book.test(UNTIL, "in its round, one having reviewed", Promise10::inItsRound);
        book.test(UNTIL, "behind its round, which goes on then", Promise10::behindItsRound);
        book.test(UNTIL, "with a remark open", Promise10::remarkOpen);
        book.test(UNTIL, "again, when the text was changed", Promise10::changed);
        book.refused(APPROVED, "waiting for a reader", Expect.STATE, () -> Keepers.approved(1), x -> x.reviewer(0, 3));
        book.refused(APPROVED, "waiting for its day", Expect.STATE,
            () -> Keepers.approvedFor(3), x -> x.reviewer(0, 3));
        book.refused(APPROVED, "beside a version in force", Expect.STATE, Keepers::midway, x -> x.reviewer(0, 3));
    }

    private static void whoMayNot(Book book) {
        for (int person : new int[] {0, 5}) {
            book.refused(AUTHOR, "person " + person, Expect.STATE,
                () -> draftOf(person), x -> x.reviewer(0, person));
            book.refused(MAY_NOT, "person " + person, Expect.STATE,
                () -> draftWithout(person), x -> x.reviewer(0, person));
        }
        book.refused(AUTHOR, "when the text was changed", Expect.STATE, Promise10::changedDraft, x -> x.reviewer(0, 0));
        book.refused(MAY_NOT, "the deputy of one who may", Expect.STATE,
            Promise10::deputyOfReviewer, x -> x.reviewer(0, 5));
        book.refused(MAY_NOT, "one who may approve", Expect.STATE, Promise10::approverOnly, x -> x.reviewer(0, 5));
    }

    private static void named(Book book) {
        book.refused(NAMED, "the first", Expect.STATE, () -> Keepers.withDraft(5, 1, 2), x -> x.reviewer(0, 5));
        book.refused(NAMED, "the last", Expect.STATE, () -> Keepers.withDraft(5, 1, 2), x -> x.reviewer(0, 2));
        book.refused(NAMED, "who has reviewed", Expect.STATE, () -> Keepers.reviewed(), x -> x.reviewer(0, 1));
        book.refused(NAMED, "in the round before", Expect.STATE, Promise10::changedDraft, x -> x.reviewer(0, 1));
        book.test(NAMED, "for a draft that was dropped: allowed", Promise10::namedForDropped);
        book.test(NAMED, "for another paper: allowed", Promise10::namedForAnother);
        book.test(NAMED, "as a reader: allowed", Promise10::namedAsReader);
    }

    private static void order(Book book) {
        book.refused(Book.FIRST, "no such paper, and person 6", Expect.INDEX,
            () -> Keepers.drafts(1), x -> x.reviewer(1, 6));
        book.refused(Book.FIRST, "person 6, and no draft", Expect.ARGUMENT,
            () -> Keepers.papers(1), x -> x.reviewer(0, 6));
        book.refused(Book.FIRST, "person -1, and it is approved", Expect.ARGUMENT,
            () -> Keepers.approved(1), x -> x.reviewer(0, -1));
        book.refused(Book.FIRST, "person 6, and there are 4", Expect.ARGUMENT,
            () -> Keepers.withDraft(1, 2, 3, 4), x -> x.reviewer(0, 6));
    }

    private static void stays(Book book) {
        book.test(STAYS, "the review is still waited for", Promise10::stillWaitedFor);
        book.test(STAYS, "the person still reviews", Promise10::stillReviews);
        book.test(STAYS, "the person still counts", Promise10::stillCounts);
        book.test(STAYS, "also in the next round", Promise10::inTheNextRound);
    }

    private static PaperKeeper draftOf(int author) {
        PaperKeeper x = Keepers.papers(1);
        x.draft(0, author, 10);
        return x;
    }

    private static PaperKeeper draftWithout(int person) {
        PaperKeeper x = draftOf(3);
        x.setRoles(person, false, true);
        return x;
    }

    private static PaperKeeper dropped() {
        PaperKeeper x = Keepers.withDraft(1);
        x.drop(0);
        return x;
    }

    private static PaperKeeper changedDraft() {
        PaperKeeper x = Keepers.reviewed();
        x.change(0, 11);
        return x;
    }

    private static PaperKeeper fourInOrder() {
        PaperKeeper x = Keepers.withDraftIn(true, 1, 2, 3, 4);
        x.review(0, 1, false);
        x.review(0, 2, true);
        return x;
    }

    private static PaperKeeper deputyOfReviewer() {
        PaperKeeper x = draftOf(3);
        x.setRoles(5, false, false);
        x.setDeputy(1, 5);
        return x;
    }

    private static PaperKeeper approverOnly() {
        PaperKeeper x = draftOf(3);
        x.setRoles(5, false, true);
        return x;
    }

    private static void oneToFour() {
        PaperKeeper x = draftOf(3);
        int[] persons = {5, 0, 4, 1};
        for (int i = 0; i < 4; i++) {
            Expect.same("reviewer(0, " + persons[i] + ")", x.reviewer(0, persons[i]), i + 1);
        }
    }

    private static void order() {
        PaperKeeper x = Keepers.withDraft(5, 1, 4, 2);
        for (int person : new int[] {5, 1, 4, 2}) {
            Expect.same("waitsFor(0)", x.waitsFor(0), person);
            x.review(0, person, false);
        }
    }

    private static void readersDoNotCount() {
        PaperKeeper x = Keepers.withDraft(1);
        x.reader(0, 2);
        x.reader(0, 3);
        Expect.same("reviewer(0, 4)", x.reviewer(0, 4), 2);
    }

    private static void inItsRound() {
        PaperKeeper x = Keepers.withDraft(1, 2);
        x.review(0, 1, false);
        Expect.same("reviewer(0, 3)", x.reviewer(0, 3), 3);
    }

    private static void behindItsRound() {
        PaperKeeper x = Keepers.reviewed();
        Expect.same("step(0) before", x.step(0), 3);
        Expect.same("reviewer(0, 3)", x.reviewer(0, 3), 2);
        Expect.same("step(0)", x.step(0), 1);
        Expect.fails("approve(0, 2, 1)", Expect.STATE, () -> x.approve(0, 2, 1));
    }

    private static void remarkOpen() {
        PaperKeeper x = Keepers.remarked(1);
        Expect.same("reviewer(0, 3)", x.reviewer(0, 3), 2);
        Expect.same("step(0)", x.step(0), 1);
    }

    private static void changed() {
        PaperKeeper x = Keepers.approved(1);
        x.change(0, 11);
        Expect.same("reviewer(0, 3)", x.reviewer(0, 3), 2);
    }

    private static void namedForDropped() {
        PaperKeeper x = Keepers.withDraft(1, 2, 3, 4);
        x.drop(0);
        x.draft(0, 0, 10);
        Expect.same("reviewer(0, 1)", x.reviewer(0, 1), 1);
    }

    private static void namedForAnother() {
        PaperKeeper x = Keepers.drafts(2);
        x.reviewer(0, 5);
        Expect.same("reviewer(1, 5)", x.reviewer(1, 5), 2);
    }

    private static void namedAsReader() {
        PaperKeeper x = Keepers.withDraft();
        x.reader(0, 1);
        Expect.same("reviewer(0, 1)", x.reviewer(0, 1), 1);
    }

    private static void stillWaitedFor() {
        PaperKeeper x = Keepers.withDraft(1);
        x.setRoles(1, false, false);
        Expect.same("step(0)", x.step(0), 1);
        Expect.same("waitsFor(0)", x.waitsFor(0), 1);
    }

    private static void stillReviews() {
        PaperKeeper x = Keepers.withDraft(1);
        x.setRoles(1, false, false);
        Expect.same("review(0, 1, true)", x.review(0, 1, true), 0);
    }

    private static void stillCounts() {
        PaperKeeper x = Keepers.withDraft(1, 2, 3, 4);
        x.setRoles(1, false, false);
        Expect.fails("reviewer(0, 5)", Expect.STATE, () -> x.reviewer(0, 5));
    }

    private static void inTheNextRound() {
        PaperKeeper x = Keepers.withDraft(1, 2);
        x.setRoles(1, false, false);
        x.change(0, 11);
        Expect.same("waitsFor(0)", x.waitsFor(0), 1);
        Expect.same("review(0, 1, false)", x.review(0, 1, false), -1);
    }
}
