/** Promise 12: review. */
final class Promise12 {
    private static final String OUT = "person is out of range";
    private static final String REMARKS = "remarks: whether there is a remark";
    private static final String NUMBER = "Returns the number of the remark, -1 if there is none";
    private static final String NO_DRAFT = "the paper has no draft";
    private static final String NO_REVIEWER = "the person is no reviewer of it";
    private static final String HAS_REVIEWED = "has reviewed it";
    private static final String TURN = "it is not the person's turn";
    private static final String IN_ORDER = "in order, only the first one who has not";
    private static final String ONCE = "While it is in its round, reviewers review it, each once";
    private static final String COMES = "A review comes with a remark, or without one";
    private static final String NUMBERED = "remarks are numbered from 0 in each round";

    private Promise12() {
    }

    static void tests(Book book) {
        book.promise(12, "review");
        Edges.paper(book, Keepers::drafts, (x, paper) -> x.review(paper, 1, false));
        Edges.range(book, "person", "person: 0 to 5", OUT, 0, 5,
            Promise12::onlyReviewersAreEdges, (x, person) -> x.review(0, person, true));
        numbers(book);
        noDraft(book);
        noReviewer(book);
        hasReviewed(book);
        turns(book);
        order(book);
        book.test("Reviews a draft", "of the right paper of 8", Promise12::rightPaper);
    }

    private static void numbers(Book book) {
        book.test(COMES, "some with, some without", Promise12::usesNoNumber);
        book.test(REMARKS, "true: one is open then", Promise12::remarkIsOpen);
        book.test(REMARKS, "false: none is there", Promise12::noRemarkIsThere);
        book.test(NUMBER, "0, the first", () -> Expect.same("the call", Keepers.withDraft(1).review(0, 1, true), 0));
        book.test(NUMBER, "-1, nobody having reviewed",
            () -> Expect.same("the call", Keepers.withDraft(1).review(0, 1, false), -1));
        book.test(NUMBER, "0 to 3, the most there can be", Promise12::zeroToThree);
        book.test(NUMBER, "an answered one keeps its number", Promise12::answeredKeepsNumber);
        book.test(NUMBERED, "0 in the next round", Promise12::nextRound);
        book.test(NUMBERED, "0 in another draft of the paper", Promise12::nextDraft);
        book.test(NUMBERED, "0 in another paper", Promise12::anotherPaper);
    }

    private static void noDraft(Book book) {
        book.refused(NO_DRAFT, "a new paper", Expect.STATE, () -> Keepers.papers(1), x -> x.review(0, 1, true));
        book.refused(NO_DRAFT, "it was dropped", Expect.STATE, Promise12::dropped, x -> x.review(0, 1, true));
        book.refused(NO_DRAFT, "it came into force", Expect.STATE, () -> Keepers.inForce(1), x -> x.review(0, 1, true));
        book.refused(NO_DRAFT, "another paper has one", Expect.STATE, Keepers::midway, x -> x.review(2, 4, true));
    }

    private static void noReviewer(Book book) {
        book.refused(NO_REVIEWER, "there are none", Expect.STATE, () -> Keepers.withDraft(), x -> x.review(0, 1, true));
        book.refused(NO_REVIEWER, "there are 4", Expect.STATE,
            () -> Keepers.withDraft(1, 2, 3, 4), x -> x.review(0, 5, false));
        book.refused(NO_REVIEWER, "the author", Expect.STATE,
            () -> Keepers.withDraft(1, 2), x -> x.review(0, 0, false));
        book.refused(NO_REVIEWER, "a reader", Expect.STATE, () -> Keepers.remarked(1), x -> x.review(0, 4, false));
        book.refused(NO_REVIEWER, "a reviewer of another paper", Expect.STATE,
            Keepers::midway, x -> x.review(0, 4, false));
        book.refused(NO_REVIEWER, "a reviewer's deputy", Expect.STATE,
            Promise12::withDeputy, x -> x.review(0, 5, false));
        book.refused(NO_REVIEWER, "a reviewer of the draft before", Expect.STATE,
            Promise12::secondDraft, x -> x.review(0, 1, false));
    }

    private static void hasReviewed(Book book) {
        book.refused(HAS_REVIEWED, "with a remark", Expect.STATE, () -> Keepers.remarked(1), x -> x.review(0, 1, true));
        book.refused(HAS_REVIEWED, "without a remark", Expect.STATE, Keepers::reviewed, x -> x.review(0, 1, true));
        book.refused(HAS_REVIEWED, "its remark being answered", Expect.STATE,
            () -> Keepers.answered(1), x -> x.review(0, 1, false));
        book.refused(HAS_REVIEWED, "in order, the next one has the turn", Expect.STATE,
            Keepers::midway, x -> x.review(1, 3, false));
        book.refused(HAS_REVIEWED, "behind the approval", Expect.STATE,
            () -> Keepers.approved(1), x -> x.review(0, 1, true));
        book.test(ONCE, "each of four", Promise12::fourOnce);
        book.test(ONCE, "again in the next round", Promise12::againInNextRound);
    }

    private static void turns(Book book) {
        for (int person : new int[] {1, 4, 3}) {
            book.refused(TURN, "the first of four being waited for, and not " + person, Expect.STATE,
                () -> Keepers.withDraftIn(true, 2, 1, 4, 3), x -> x.review(0, person, true));
        }
        book.refused(TURN, "the second being waited for, and not the fourth", Expect.STATE,
            () -> firstHasReviewed(2, 1, 4, 3), x -> x.review(0, 3, true));
        book.refused(TURN, "the first again in the next round", Expect.STATE,
            Promise12::nextRoundInOrder, x -> x.review(0, 1, false));
        book.test(IN_ORDER, "each of four in turn", Promise12::eachInTurn);
        book.test(IN_ORDER, "an open remark does not stop the next one", Promise12::openRemarkDoesNotStop);
        book.test(IN_ORDER, "one who was named behind the others' reviews", Promise12::namedBehind);
        book.test("a paper is reviewed in order, or side by side", "side by side, the last one first",
            Promise12::lastFirst);
    }

    private static void order(Book book) {
        book.refused(Book.FIRST, "no such paper, and person 6", Expect.INDEX,
            () -> Keepers.drafts(1), x -> x.review(1, 6, true));
        book.refused(Book.FIRST, "person 6, and no draft", Expect.ARGUMENT,
            () -> Keepers.papers(1), x -> x.review(0, 6, true));
        book.refused(Book.FIRST, "person -1, no reviewer either", Expect.ARGUMENT,
            () -> Keepers.drafts(1), x -> x.review(0, -1, true));
    }

    /** Persons 0 and 5 are reviewers. */
    private static PaperKeeper onlyReviewersAreEdges() {
        PaperKeeper x = Keepers.papers(1);
        x.draft(0, 3, 10);
        x.reviewer(0, 5);
        x.reviewer(0, 0);
        return x;
    }

    private static PaperKeeper dropped() {
        PaperKeeper x = Keepers.withDraft(1);
        x.drop(0);
        return x;
    }

    private static PaperKeeper withDeputy() {
        PaperKeeper x = Keepers.withDraft(1);
        x.setDeputy(1, 5);
        return x;
    }

    private static PaperKeeper secondDraft() {
        PaperKeeper x = Keepers.withDraft(1);
        x.drop(0);
        x.draft(0, 0, 11);
        x.reviewer(0, 2);
        return x;
    }

    private static PaperKeeper firstHasReviewed(int... reviewers) {
        PaperKeeper x = Keepers.withDraftIn(true, reviewers);
        x.review(0, reviewers[0], false);
        return x;
    }

    private static PaperKeeper nextRoundInOrder() {
        PaperKeeper x = firstHasReviewed(2, 1);
        x.change(0, 11);
        return x;
    }

    private static void remarkIsOpen() {
        PaperKeeper x = Keepers.withDraft(1);
        x.review(0, 1, true);
        Expect.same("step(0)", x.step(0), 2);
        Expect.same("answer(0, 0)", x.answer(0, 0), 0);
    }

    private static void noRemarkIsThere() {
        PaperKeeper x = Keepers.withDraft(1);
        x.review(0, 1, false);
        Expect.same("step(0)", x.step(0), 3);
        Expect.fails("answer(0, 0)", Expect.INDEX, () -> x.answer(0, 0));
    }

    private static void zeroToThree() {
        PaperKeeper x = Keepers.withDraft(4, 1, 3, 2);
        int[] persons = {2, 4, 1, 3};
        for (int i = 0; i < 4; i++) {
            Expect.same("review(0, " + persons[i] + ", true)", x.review(0, persons[i], true), i);
        }
    }

    private static void usesNoNumber() {
        PaperKeeper x = Keepers.withDraft(1, 2, 3, 4);
        Expect.same("review(0, 1, true)", x.review(0, 1, true), 0);
        Expect.same("review(0, 2, false)", x.review(0, 2, false), -1);
        Expect.same("review(0, 3, false)", x.review(0, 3, false), -1);
        Expect.same("review(0, 4, true)", x.review(0, 4, true), 1);
    }

    private static void answeredKeepsNumber() {
        PaperKeeper x = Keepers.withDraft(1, 2);
        x.review(0, 1, true);
        x.answer(0, 0);
        Expect.same("review(0, 2, true)", x.review(0, 2, true), 1);
    }

    private static void nextRound() {
        PaperKeeper x = Keepers.withDraft(1, 2);
        x.review(0, 1, true);
        x.review(0, 2, true);
        x.change(0, 11);
        Expect.same("review(0, 2, true)", x.review(0, 2, true), 0);
    }

    private static void nextDraft() {
        PaperKeeper x = Keepers.withDraft(1);
        x.review(0, 1, true);
        x.drop(0);
        x.draft(0, 0, 11);
        x.reviewer(0, 1);
        Expect.same("review(0, 1, true)", x.review(0, 1, true), 0);
    }

    private static void anotherPaper() {
        PaperKeeper x = Keepers.drafts(2);
        x.review(0, 1, true);
        Expect.same("review(1, 1, true)", x.review(1, 1, true), 0);
    }

    private static void fourOnce() {
        PaperKeeper x = Keepers.withDraft(1, 2, 3, 4);
        for (int person = 1; person <= 4; person++) {
            int each = person;
            Expect.same("review", x.review(0, person, false), -1);
            Expect.fails("review again", Expect.STATE, () -> x.review(0, each, false));
        }
        Expect.same("step(0)", x.step(0), 3);
    }

    private static void againInNextRound() {
        PaperKeeper x = Keepers.reviewed();
        x.change(0, 11);
        Expect.same("review(0, 1, true)", x.review(0, 1, true), 0);
        Expect.fails("review(0, 1, true) again", Expect.STATE, () -> x.review(0, 1, true));
    }

    private static void eachInTurn() {
        PaperKeeper x = Keepers.withDraftIn(true, 5, 1, 4, 2);
        for (int person : new int[] {5, 1, 4, 2}) {
            Expect.same("review(0, " + person + ", false)", x.review(0, person, false), -1);
        }
        Expect.same("step(0)", x.step(0), 3);
    }

    private static void openRemarkDoesNotStop() {
        PaperKeeper x = Keepers.withDraftIn(true, 2, 1);
        x.review(0, 2, true);
        Expect.same("review(0, 1, true)", x.review(0, 1, true), 1);
    }

    private static void namedBehind() {
        PaperKeeper x = Keepers.withDraftIn(true, 3, 2);
        x.review(0, 3, false);
        x.review(0, 2, false);
        x.reviewer(0, 1);
        Expect.same("review(0, 1, true)", x.review(0, 1, true), 0);
    }

    private static void lastFirst() {
        PaperKeeper x = Keepers.withDraftIn(false, 1, 2, 3, 4);
        for (int person = 4; person > 0; person--) {
            Expect.same("review(0, " + person + ", false)", x.review(0, person, false), -1);
        }
    }

    private static void rightPaper() {
        PaperKeeper x = Keepers.drafts(8);
        x.review(7, 1, false);
        x.review(0, 1, true);
        for (int paper = 0; paper < 8; paper++) {
            Expect.same("step(" + paper + ")", x.step(paper), paper == 7 ? 3 : paper == 0 ? 2 : 1);
        }
    }
}
