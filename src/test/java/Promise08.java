/** Promise 8: change. */
final class Promise08 {
    private static final String OUT = "text is out of range";
    private static final String NO_DRAFT = "the paper has no draft";
    private static final String SAME = "it has this text";
    private static final String ROUND = "Returns which round begins, the one with which the draft began being 1";
    private static final String NOT_ANY_MORE = "one that was approved is not any more";

    private Promise08() {
    }

    static void tests(Book book) {
        book.promise(8, "change");
        Edges.paper(book, Keepers::drafts, (x, paper) -> x.change(paper, 99));
        Edges.range(book, "text", "text: 0 to 9999", OUT, 0, 9999, () -> Keepers.approved(1), (x, t) -> x.change(0, t));
        book.test("Changes the text of a draft", "to 0", () -> changesTo(0));
        book.test("Changes the text of a draft", "to 9999", () -> changesTo(9999));
        book.test("Changes the text of a draft", "of the right paper of 8", Promise08::rightPaper);
        noDraft(book);
        sameText(book);
        order(book);
        rounds(book);
        anew(book);
        approval(book);
    }

    private static void noDraft(Book book) {
        book.refused(NO_DRAFT, "a new paper", Expect.STATE, () -> Keepers.papers(1), x -> x.change(0, 10));
        book.refused(NO_DRAFT, "it was dropped", Expect.STATE, Promise08::dropped, x -> x.change(0, 11));
        book.refused(NO_DRAFT, "it came into force", Expect.STATE, () -> Keepers.inForce(1), x -> x.change(0, 11));
        book.refused(NO_DRAFT, "another paper has one", Expect.STATE, Keepers::midway, x -> x.change(2, 11));
    }

    private static void sameText(Book book) {
        book.refused(SAME, "the first text", Expect.STATE, () -> Keepers.drafts(1), x -> x.change(0, 10));
        book.refused(SAME, "text 0", Expect.STATE, () -> changed(0), x -> x.change(0, 0));
        book.refused(SAME, "text 9999", Expect.STATE, () -> changed(9999), x -> x.change(0, 9999));
        book.refused(SAME, "a changed text", Expect.STATE, () -> changed(11), x -> x.change(0, 11));
        book.refused(SAME, "behind its approval", Expect.STATE, () -> Keepers.approved(1), x -> x.change(0, 10));
        book.test(SAME, "the text of a former round is allowed",
            () -> Expect.same("the call", changed(11).change(0, 10), 3));
        book.test(SAME, "the text in force is allowed", Promise08::textInForce);
        book.test(SAME, "the text of another paper's draft is allowed",
            () -> Expect.same("change(0, 11)", Keepers.drafts(2).change(0, 11), 2));
    }

    private static void order(Book book) {
        book.refused(Book.FIRST, "no such paper, and text -1", Expect.INDEX,
            () -> Keepers.drafts(1), x -> x.change(1, -1));
        book.refused(Book.FIRST, "text 10000, and no draft", Expect.ARGUMENT,
            () -> Keepers.papers(1), x -> x.change(0, 10000));
        book.refused(Book.FIRST, "text -1, and no draft", Expect.ARGUMENT,
            () -> Keepers.papers(1), x -> x.change(0, -1));
    }

    private static void rounds(Book book) {
        book.test(ROUND, "the first change begins round 2",
            () -> Expect.same("the call", Keepers.drafts(1).change(0, 11), 2));
        book.test(ROUND, "each change begins one more", Promise08::oneMore);
        book.test(ROUND, "a call that is refused begins none", Promise08::refusedBeginsNone);
        book.test(ROUND, "a draft behind a dropped one began with 1", Promise08::behindDropped);
        book.test(ROUND, "a draft behind one in force began with 1", Promise08::behindInForce);
        book.test(ROUND, "each paper's own", Promise08::eachPapersOwn);
    }

    private static void anew(Book book) {
        book.test("no reviews", "all had reviewed", Promise08::noReviews);
        book.test("no reviews", "in order, the first one has the turn", Promise08::firstHasTheTurn);
        book.test("no remarks", "open ones and answered ones", Promise08::noRemarks);
        book.test("no remarks", "they are numbered from 0 again", Promise08::numberedAgain);
        book.test("no remarks", "one that was answered before does not count as answered", Promise08::openAgain);
        book.test("no approval", "the round being over again", Promise08::noApproval);
        book.test("no approval", "the day that was told is told anew", Promise08::dayAnew);
        book.test("no confirmations", "each of six has to confirm again", Promise08::noConfirmations);
        book.test("When the text is changed, a new round begins", "reviewers stay, in their order",
            Promise08::reviewersStay);
        book.test("When the text is changed, a new round begins", "readers stay", Promise08::readersStay);
        book.test("When the text is changed, a new round begins", "the author stays", Promise08::authorStays);
    }

    private static void approval(Book book) {
        book.test(NOT_ANY_MORE, "it waits for a review", Promise08::waitsForReview);
        book.test(NOT_ANY_MORE, "it does not come into force", Promise08::doesNotCome);
        book.test(NOT_ANY_MORE, "it can be approved again", Promise08::approvedAgain);
        book.test(NOT_ANY_MORE, "nor when its readers have confirmed and its day is tomorrow",
            Promise08::readyForTomorrow);
    }

    private static PaperKeeper dropped() {
        PaperKeeper x = Keepers.approved(1);
        x.drop(0);
        return x;
    }

    private static PaperKeeper changed(int text) {
        PaperKeeper x = Keepers.drafts(1);
        x.change(0, text);
        return x;
    }

    private static void changesTo(int text) {
        Expect.same("drop(0)", changed(text).drop(0), text);
    }

    private static void rightPaper() {
        PaperKeeper x = Keepers.drafts(8);
        x.change(7, 99);
        x.change(0, 98);
        for (int paper = 0; paper < 8; paper++) {
            Expect.same("drop(" + paper + ")", x.drop(paper), paper == 7 ? 99 : paper == 0 ? 98 : 10 + paper);
        }
    }

    private static void textInForce() {
        PaperKeeper x = Keepers.inForce(1);
        x.draft(0, 0, 11);
        Expect.same("change(0, 10)", x.change(0, 10), 2);
    }

    private static void oneMore() {
        PaperKeeper x = Keepers.drafts(1);
        for (int round = 2; round < 20; round++) {
            Expect.same("change", x.change(0, round % 2), round);
        }
    }

    private static void refusedBeginsNone() {
        PaperKeeper x = Keepers.drafts(1);
        Expect.fails("change(0, 10)", Expect.STATE, () -> x.change(0, 10));
        Expect.fails("change(0, 10000)", Expect.ARGUMENT, () -> x.change(0, 10000));
        Expect.same("change(0, 11)", x.change(0, 11), 2);
    }

    private static void behindDropped() {
        PaperKeeper x = changed(11);
        x.change(0, 12);
        x.drop(0);
        x.draft(0, 0, 10);
        Expect.same("change(0, 11)", x.change(0, 11), 2);
    }

    private static void behindInForce() {
        PaperKeeper x = changed(11);
        x.review(0, 1, false);
        x.approve(0, 2, 1);
        x.pass(1);
        x.draft(0, 0, 10);
        Expect.same("change(0, 11)", x.change(0, 11), 2);
    }

    private static void eachPapersOwn() {
        PaperKeeper x = Keepers.drafts(2);
        x.change(0, 90);
        x.change(0, 91);
        Expect.same("change(1, 90)", x.change(1, 90), 2);
    }

    private static void noReviews() {
        PaperKeeper x = Keepers.withDraft(3, 1, 4, 2);
        for (int person = 1; person <= 4; person++) {
            x.review(0, person, false);
        }
        x.change(0, 11);
        Expect.same("step(0)", x.step(0), 1);
        for (int person = 1; person <= 4; person++) {
            Expect.same("review again", x.review(0, person, false), -1);
        }
        Expect.same("step(0)", x.step(0), 3);
    }

    private static void firstHasTheTurn() {
        PaperKeeper x = Keepers.withDraftIn(true, 5, 1);
        x.review(0, 5, false);
        x.change(0, 11);
        Expect.fails("review(0, 1, false)", Expect.STATE, () -> x.review(0, 1, false));
        Expect.same("review(0, 5, false)", x.review(0, 5, false), -1);
    }

    /** Four remarks, of which the first and the last are answered; then the text is changed. */
    private static PaperKeeper remarkedAndChanged() {
        PaperKeeper x = Keepers.withDraft(1, 2, 3, 4);
        for (int person = 1; person <= 4; person++) {
            x.review(0, person, true);
        }
        x.answer(0, 0);
        x.answer(0, 3);
        x.change(0, 11);
        return x;
    }

    private static void noRemarks() {
        PaperKeeper x = remarkedAndChanged();
        for (int remark = 0; remark < 4; remark++) {
            int each = remark;
            Expect.fails("answer(0, " + remark + ")", Expect.INDEX, () -> x.answer(0, each));
        }
        for (int person = 1; person <= 4; person++) {
            x.review(0, person, false);
        }
        Expect.same("step(0)", x.step(0), 3);
    }

    private static void numberedAgain() {
        PaperKeeper x = remarkedAndChanged();
        for (int person = 1; person <= 4; person++) {
            Expect.same("review with a remark", x.review(0, person, true), person - 1);
        }
    }

    private static void openAgain() {
        PaperKeeper x = remarkedAndChanged();
        for (int person = 1; person <= 4; person++) {
            x.review(0, person, true);
        }
        Expect.same("answer(0, 0)", x.answer(0, 0), 3);
        Expect.same("answer(0, 3)", x.answer(0, 3), 2);
    }

    private static void noApproval() {
        PaperKeeper x = Keepers.approvedFor(5);
        x.change(0, 11);
        x.review(0, 1, false);
        Expect.same("step(0)", x.step(0), 3);
        Expect.same("pass(6)", x.pass(6), 0);
    }

    private static void dayAnew() {
        PaperKeeper x = Keepers.approvedFor(2);
        x.change(0, 11);
        x.review(0, 1, false);
        x.approve(0, 2, 4);
        Expect.same("pass(3)", x.pass(3), 0);
        Expect.same("pass(1)", x.pass(1), 1);
    }

    private static void noConfirmations() {
        PaperKeeper x = Keepers.approvedFor(2, 0, 1, 2, 3, 4, 5);
        for (int person = 0; person < 6; person++) {
            x.confirm(0, person);
        }
        x.change(0, 11);
        x.review(0, 1, false);
        x.approve(0, 2, 2);
        for (int person = 0; person < 6; person++) {
            Expect.same("confirm(0, " + person + ")", x.confirm(0, person), 5 - person);
        }
    }

    private static void reviewersStay() {
        PaperKeeper x = Keepers.withDraftIn(true, 4, 2, 3);
        x.change(0, 11);
        for (int person : new int[] {4, 2, 3}) {
            Expect.same("waitsFor(0)", x.waitsFor(0), person);
            x.review(0, person, false);
        }
        Expect.same("reviewer(0, 1)", x.reviewer(0, 1), 4);
    }

    private static void readersStay() {
        PaperKeeper x = Keepers.approvedFor(2, 0, 5);
        x.change(0, 11);
        Expect.fails("reader(0, 0)", Expect.STATE, () -> x.reader(0, 0));
        Expect.same("reader(0, 3)", x.reader(0, 3), 3);
    }

    private static void authorStays() {
        PaperKeeper x = Keepers.remarked(1);
        x.change(0, 11);
        x.review(0, 1, true);
        Expect.same("waitsFor(0)", x.waitsFor(0), 0);
        x.answer(0, 0);
        Expect.fails("approve(0, 0, 1)", Expect.STATE, () -> x.approve(0, 0, 1));
    }

    private static void waitsForReview() {
        PaperKeeper x = Keepers.approved(1);
        x.change(0, 11);
        Expect.same("step(0)", x.step(0), 1);
        Expect.fails("confirm(0, 4)", Expect.STATE, () -> x.confirm(0, 4));
    }

    private static void doesNotCome() {
        PaperKeeper x = Keepers.approvedFor(2);
        x.change(0, 11);
        Expect.same("pass(3)", x.pass(3), 0);
        Expect.same("inForce(0)", x.inForce(0), -1);
    }

    private static void approvedAgain() {
        PaperKeeper x = Keepers.approvedFor(2);
        x.change(0, 11);
        x.review(0, 1, false);
        Expect.passes("approve(0, 3, 3)", () -> x.approve(0, 3, 3));
        Expect.same("pass(3)", x.pass(3), 1);
        Expect.same("text(0)", x.text(0), 11);
    }

    private static void readyForTomorrow() {
        PaperKeeper x = Keepers.approvedFor(1, 4);
        x.confirm(0, 4);
        Expect.same("step(0) before", x.step(0), 5);
        x.change(0, 11);
        Expect.same("pass(1)", x.pass(1), 0);
        Expect.same("step(0)", x.step(0), 1);
    }
}
