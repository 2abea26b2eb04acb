/** Promise 23: step. */
final class Promise23 {
    private static final String NO_DRAFT = "0 it has no draft";
    private static final String REVIEW = "1 a review";
    private static final String WITHOUT = "1 also without reviewers";
    private static final String ANSWER = "2 if all have reviewed and a remark is open";
    private static final String APPROVAL = "3 the approval";
    private static final String CONFIRMATION = "4 a confirmation";
    private static final String DAY = "5 the day";
    private static final String LEAST = "the least one that is so";

    private Promise23() {
    }

    static void tests(Book book) {
        book.promise(23, "step");
        Edges.paper(book, Keepers::papers, PaperKeeper::step);
        noDraft(book);
        reviews(book);
        answers(book);
        rest(book);
        book.test(LEAST, "1: a review is missing, a remark is open, a reader is named", () -> step(leastReview(), 1));
        book.test(LEAST, "2: a remark is open, a reader is named", () -> step(Keepers.remarked(1), 2));
        book.test(LEAST, "3: not approved, a reader is named", () -> step(Keepers.answered(1), 3));
        book.test(LEAST, "4: a reader has not confirmed, the day is to come", () -> step(Keepers.approved(1), 4));
        book.test("Returns the step of a paper", "each of 8 its own", Promise23::eachItsOwn);
        book.test("The step of a paper is what comes next", "from 0 to 5 and back to 0", Promise23::allSteps);
    }

    private static void noDraft(Book book) {
        book.test(NO_DRAFT, "a new paper", () -> step(Keepers.papers(1), 0));
        book.test(NO_DRAFT, "one in force", () -> step(Keepers.inForce(1), 0));
        book.test(NO_DRAFT, "it was dropped", Promise23::dropped);
    }

    private static void reviews(Book book) {
        book.test(WITHOUT, "a new draft", () -> step(Keepers.withDraft(), 1));
        book.test(WITHOUT, "with a reader", Promise23::onlyReader);
        book.test(REVIEW, "one reviewer", () -> step(Keepers.withDraft(1), 1));
        book.test(REVIEW, "the last of four has not reviewed", () -> step(reviewedBut(4), 1));
        book.test(REVIEW, "the first of four has not reviewed", () -> step(reviewedBut(1), 1));
        book.test(REVIEW, "one more reviewer was named", Promise23::oneMore);
        book.test(REVIEW, "the text was changed", Promise23::changed);
    }

    private static void answers(Book book) {
        book.test("2 an answer", "of two remarks", Promise23::oneOfTwo);
        book.test(ANSWER, "the only one", () -> step(Keepers.remarked(1), 2));
        book.test(ANSWER, "the last of four", Promise23::lastOfFour);
        book.test(ANSWER, "not when one has not reviewed", () -> step(leastReview(), 1));
        book.test(ANSWER, "not when all are answered", () -> step(Keepers.answered(1), 3));
    }

    private static void rest(Book book) {
        book.test(APPROVAL, "without remarks", () -> step(Keepers.reviewed(), 3));
        book.test(APPROVAL, "nobody may approve it", Promise23::nobodyMay);
        book.test(CONFIRMATION, "the last of six", Promise23::lastOfSix);
        book.test(CONFIRMATION, "the told day has gone by", () -> step(Keepers.onDay(Keepers.approved(1), 9), 4));
        book.test(DAY, "no readers", () -> step(Keepers.approvedFor(1), 5));
        book.test(DAY, "all readers have confirmed", Promise23::allConfirmed);
        book.test(DAY, "the told day has gone by, it comes tomorrow", Promise23::comesTomorrow);
        book.test(CONFIRMATION, "again, when one more reader was named", Promise23::oneMoreReader);
    }

    private static void step(PaperKeeper x, int due) {
        Expect.same("step(0)", x.step(0), due);
    }

    private static PaperKeeper leastReview() {
        PaperKeeper x = Keepers.withDraft(1, 2);
        x.reader(0, 4);
        x.review(0, 1, true);
        return x;
    }

    private static PaperKeeper reviewedBut(int missing) {
        PaperKeeper x = Keepers.withDraft(1, 2, 3, 4);
        for (int person = 1; person <= 4; person++) {
            if (person != missing) {
                x.review(0, person, false);
            }
        }
        return x;
    }

    private static void dropped() {
        PaperKeeper x = Keepers.approved(1);
        x.drop(0);
        step(x, 0);
    }

    private static void onlyReader() {
        PaperKeeper x = Keepers.withDraft();
        x.reader(0, 4);
        step(x, 1);
    }

    private static void oneMore() {
        PaperKeeper x = Keepers.answered(1);
        x.reviewer(0, 3);
        step(x, 1);
    }

    private static void changed() {
        PaperKeeper x = Keepers.approved(1);
        x.change(0, 11);
        step(x, 1);
    }

    private static void lastOfFour() {
        PaperKeeper x = Keepers.withDraft(1, 2, 3, 4);
        for (int person = 1; person <= 4; person++) {
            x.review(0, person, true);
        }
        for (int remark = 0; remark < 3; remark++) {
            x.answer(0, remark);
        }
        step(x, 2);
        x.answer(0, 3);
        step(x, 3);
    }

    private static void oneOfTwo() {
        PaperKeeper x = Keepers.withDraft(1, 2);
        x.review(0, 2, true);
        x.review(0, 1, true);
        step(x, 2);
        x.answer(0, 0);
        step(x, 2);
        x.answer(0, 1);
        step(x, 3);
    }

    private static void nobodyMay() {
        PaperKeeper x = Keepers.reviewed();
        for (int person = 0; person < 6; person++) {
            x.setRoles(person, false, false);
        }
        step(x, 3);
    }

    private static void lastOfSix() {
        PaperKeeper x = Keepers.approvedFor(9, 0, 1, 2, 3, 4, 5);
        for (int person = 0; person < 5; person++) {
            x.confirm(0, person);
        }
        step(x, 4);
        x.confirm(0, 5);
        step(x, 5);
    }

    private static void allConfirmed() {
        PaperKeeper x = Keepers.approved(1);
        x.confirm(0, 4);
        step(x, 5);
    }

    private static void comesTomorrow() {
        PaperKeeper x = Keepers.onDay(Keepers.approved(1), 9);
        x.confirm(0, 4);
        step(x, 5);
    }

    private static void oneMoreReader() {
        PaperKeeper x = Keepers.approved(1);
        x.confirm(0, 4);
        x.reader(0, 5);
        step(x, 4);
    }

    private static void eachItsOwn() {
        PaperKeeper x = Keepers.midway();
        int[] due = {4, 1, 0, 0};
        for (int paper = 0; paper < 4; paper++) {
            Expect.same("step(" + paper + ")", x.step(paper), due[paper]);
        }
    }

    private static void allSteps() {
        PaperKeeper x = Keepers.papers(1);
        step(x, 0);
        x.draft(0, 0, 10);
        step(x, 1);
        x.reviewer(0, 1);
        x.reader(0, 4);
        x.review(0, 1, true);
        step(x, 2);
        x.answer(0, 0);
        step(x, 3);
        x.approve(0, 2, 1);
        step(x, 4);
        x.confirm(0, 4);
        step(x, 5);
        x.pass(1);
        step(x, 0);
    }
}
