/** Promise 28: waitsFor. */
final class Promise28 {
    private static final String REVIEWER = "of reviewers the first in their order who has not reviewed";
    private static final String READER = "of readers the lowest who has not confirmed";
    private static final String AUTHOR = "for an answer the author";
    private static final String OTHER = "-1 for other steps";
    private static final String WITHOUT = "without such a person";

    private Promise28() {
    }

    static void tests(Book book) {
        book.promise(28, "waitsFor");
        Edges.paper(book, Keepers::papers, PaperKeeper::waitsFor);
        reviewers(book);
        readers(book);
        for (int author : new int[] {0, 5}) {
            book.test(AUTHOR, "author " + author, () -> forAnswerOf(author));
        }
        book.test(AUTHOR, "until the last of four is answered", Promise28::untilTheLast);
        book.test(AUTHOR, "not before all have reviewed", Promise28::notBeforeAll);
        book.test(OTHER, "no draft, a new paper", () -> is(Keepers.papers(1), -1));
        book.test(OTHER, "no draft, it was dropped", Promise28::dropped);
        book.test(OTHER, "no draft, one in force", () -> is(Keepers.inForce(1), -1));
        book.test(OTHER, "the approval", () -> is(Keepers.answered(1), -1));
        book.test(OTHER, "the approval, one person alone may give it", Promise28::oneMayApprove);
        book.test(OTHER, "the day", () -> is(Keepers.approvedFor(5), -1));
        book.test(OTHER, "the day, all readers having confirmed", Promise28::allConfirmed);
        book.test(WITHOUT, "no reviewers", () -> is(Keepers.withDraft(), -1));
        book.test(WITHOUT, "no reviewers, but readers", Promise28::onlyReaders);
        book.test("Returns the next person on whom the step of a paper waits", "each of 8 its own",
            Promise28::eachItsOwn);
    }

    private static void reviewers(Book book) {
        book.test(REVIEWER, "0, the only one", () -> firstOf(false, 0));
        book.test(REVIEWER, "5, the only one", () -> firstOf(false, 5));
        book.test(REVIEWER, "the first of four, not the lowest", () -> firstOf(false, 4, 1, 5, 2));
        book.test(REVIEWER, "the first of four, not the highest", () -> firstOf(false, 1, 5, 4, 2));
        book.test(REVIEWER, "the first of four, in order", () -> firstOf(true, 4, 1, 5, 2));
        book.test(REVIEWER, "a later one having reviewed", Promise28::laterReviewed);
        book.test(REVIEWER, "the last of four, the others having reviewed", Promise28::lastOfFour);
        book.test(REVIEWER, "the first again in the next round", Promise28::nextRound);
        book.test(REVIEWER, "one who was named behind the round", Promise28::namedBehind);
        book.test(REVIEWER, "a reader does not count in the round", Promise28::readerDoesNotCount);
    }

    private static void readers(Book book) {
        book.test(READER, "0, named last", () -> is(Keepers.approvedFor(5, 5, 3, 0), 0));
        book.test(READER, "5, the only one", () -> is(Keepers.approvedFor(5, 5), 5));
        book.test(READER, "a higher one having confirmed", Promise28::higherConfirmed);
        book.test(READER, "each of six in turn", Promise28::sixInTurn);
        book.test(READER, "one who was named behind the approval", Promise28::readerBehind);
        book.test(READER, "the told day having gone by", () -> is(Keepers.onDay(Keepers.approvedFor(5, 3), 9), 3));
    }

    private static void is(PaperKeeper x, int due) {
        Expect.same("waitsFor(0)", x.waitsFor(0), due);
    }

    private static PaperKeeper draftOf(boolean inOrder, int... reviewers) {
        PaperKeeper x = Keepers.withPapers(inOrder);
        x.draft(0, 3, 10);
        for (int reviewer : reviewers) {
            x.reviewer(0, reviewer);
        }
        return x;
    }

    private static void firstOf(boolean inOrder, int... reviewers) {
        is(draftOf(inOrder, reviewers), reviewers[0]);
    }

    private static void laterReviewed() {
        PaperKeeper x = draftOf(false, 4, 1, 5, 2);
        x.review(0, 1, false);
        x.review(0, 2, true);
        is(x, 4);
        x.review(0, 4, false);
        is(x, 5);
    }

    private static void lastOfFour() {
        PaperKeeper x = draftOf(true, 4, 1, 5, 2);
        for (int person : new int[] {4, 1, 5}) {
            x.review(0, person, true);
        }
        is(x, 2);
    }

    private static void nextRound() {
        PaperKeeper x = draftOf(true, 4, 1);
        x.review(0, 4, true);
        x.change(0, 11);
        is(x, 4);
    }

    private static void namedBehind() {
        PaperKeeper x = draftOf(true, 4);
        x.review(0, 4, true);
        x.reviewer(0, 1);
        is(x, 1);
    }

    private static void readerDoesNotCount() {
        PaperKeeper x = draftOf(false, 4);
        x.reader(0, 0);
        is(x, 4);
    }

    private static void higherConfirmed() {
        PaperKeeper x = Keepers.approvedFor(5, 5, 1, 3);
        x.confirm(0, 3);
        is(x, 1);
        x.confirm(0, 1);
        is(x, 5);
    }

    private static void sixInTurn() {
        PaperKeeper x = Keepers.approvedFor(5, 3, 5, 0, 4, 1, 2);
        for (int person = 0; person < 6; person++) {
            is(x, person);
            x.confirm(0, person);
        }
        is(x, -1);
    }

    private static void readerBehind() {
        PaperKeeper x = Keepers.approvedFor(5, 4);
        x.confirm(0, 4);
        x.reader(0, 5);
        is(x, 5);
        x.reader(0, 2);
        is(x, 2);
    }

    private static void forAnswerOf(int author) {
        PaperKeeper x = Keepers.papers(1);
        x.draft(0, author, 10);
        x.reviewer(0, 2);
        x.review(0, 2, true);
        is(x, author);
    }

    private static void untilTheLast() {
        PaperKeeper x = draftOf(false, 1, 2, 4, 5);
        for (int person : new int[] {1, 2, 4, 5}) {
            x.review(0, person, true);
        }
        for (int remark = 3; remark >= 0; remark--) {
            is(x, 3);
            x.answer(0, remark);
        }
        is(x, -1);
    }

    private static void notBeforeAll() {
        PaperKeeper x = draftOf(false, 1, 2);
        x.review(0, 1, true);
        is(x, 2);
    }

    private static void dropped() {
        PaperKeeper x = Keepers.withDraft(1);
        x.drop(0);
        is(x, -1);
    }

    private static void oneMayApprove() {
        PaperKeeper x = Keepers.answered(1);
        for (int person = 0; person < 6; person++) {
            x.setRoles(person, false, person == 2);
        }
        is(x, -1);
    }

    private static void allConfirmed() {
        PaperKeeper x = Keepers.approved(1);
        x.confirm(0, 4);
        is(x, -1);
    }

    private static void onlyReaders() {
        PaperKeeper x = Keepers.withDraft();
        x.reader(0, 4);
        is(x, -1);
    }

    private static void eachItsOwn() {
        PaperKeeper x = Keepers.midway();
        int[] due = {4, 4, -1, -1};
        for (int paper = 0; paper < 4; paper++) {
            Expect.same("waitsFor(" + paper + ")", x.waitsFor(paper), due[paper]);
        }
    }
}
