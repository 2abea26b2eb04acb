/** Promise 13: answer. */
final class Promise13 {
    private static final String MANY = "Returns how many are open then";
    private static final String NO_REMARK = "it has a draft, and that has no such remark in this round";
    private static final String NO_DRAFT = "the paper has no draft";
    private static final String ANSWERED = "the remark is answered";
    private static final String OPEN = "are open until the author has answered them";

    private Promise13() {
    }

    static void tests(Book book) {
        book.promise(13, "answer");
        Edges.paper(book, Keepers::remarked, (x, paper) -> x.answer(paper, 0));
        book.test(MANY, "0, the only one", () -> Expect.same("the call", Keepers.remarked(1).answer(0, 0), 0));
        book.test(MANY, "3 to 0, in any order", Promise13::threeToZero);
        book.test(MANY, "one that comes later counts", Promise13::laterCounts);
        book.test(MANY, "reviews without one do not count", Promise13::withoutDoNotCount);
        noRemark(book);
        noDraft(book);
        answered(book);
        order(book);
        book.test("Answers a remark", "of the right paper of 8", Promise13::rightPaper);
        book.test(OPEN, "until the last is answered", Promise13::untilTheLast);
        book.test(OPEN, "before all have reviewed", Promise13::beforeAllReviewed);
    }

    private static void noRemark(Book book) {
        book.test(NO_REMARK, "the first of four, 0, is there",
            () -> Expect.same("answer(0, 0)", fourRemarks().answer(0, 0), 3));
        book.test(NO_REMARK, "the last of four, 3, is there",
            () -> Expect.same("answer(0, 3)", fourRemarks().answer(0, 3), 3));
        for (int wrong : new int[] {-1, 4, 5, Integer.MIN_VALUE, Integer.MAX_VALUE}) {
            book.refused(NO_REMARK, wrong + " of four", Expect.INDEX, Promise13::fourRemarks, x -> x.answer(0, wrong));
        }
        for (int wrong : new int[] {-1, 2, 3}) {
            book.refused(NO_REMARK, wrong + " of two", Expect.INDEX, Keepers::midway, x -> x.answer(1, wrong));
        }
        book.refused(NO_REMARK, "0, nobody having reviewed", Expect.INDEX,
            () -> Keepers.drafts(1), x -> x.answer(0, 0));
        book.refused(NO_REMARK, "0, the reviews being without", Expect.INDEX, Keepers::reviewed, x -> x.answer(0, 0));
        book.refused(NO_REMARK, "0 behind a change", Expect.INDEX, Promise13::changed, x -> x.answer(0, 0));
        book.refused(NO_REMARK, "1 behind a change, 0 being there again", Expect.INDEX,
            Promise13::changedAndRemarked, x -> x.answer(0, 1));
        book.refused(NO_REMARK, "1 behind the approval", Expect.INDEX, () -> Keepers.approved(1), x -> x.answer(0, 1));
        book.refused(NO_REMARK, "0 of a second draft", Expect.INDEX, Promise13::secondDraft, x -> x.answer(0, 0));
    }

    private static void noDraft(Book book) {
        book.refused(NO_DRAFT, "a new paper", Expect.STATE, () -> Keepers.papers(1), x -> x.answer(0, 0));
        book.refused(NO_DRAFT, "it was dropped", Expect.STATE, Promise13::dropped, x -> x.answer(0, 0));
        book.refused(NO_DRAFT, "it came into force", Expect.STATE, () -> Keepers.inForce(1), x -> x.answer(0, 0));
        for (int remark : new int[] {-1, 4, Integer.MIN_VALUE, Integer.MAX_VALUE}) {
            book.refused(NO_DRAFT, "whatever the remark, " + remark, Expect.STATE,
                () -> Keepers.papers(1), x -> x.answer(0, remark));
        }
    }

    private static void answered(Book book) {
        book.refused(ANSWERED, "the only one", Expect.STATE, () -> Keepers.answered(1), x -> x.answer(0, 0));
        book.refused(ANSWERED, "another being open", Expect.STATE, Keepers::midway, x -> x.answer(1, 0));
        book.refused(ANSWERED, "behind the approval", Expect.STATE, () -> Keepers.approved(1), x -> x.answer(0, 0));
        book.refused(ANSWERED, "the last of four", Expect.STATE, Promise13::lastOfFour, x -> x.answer(0, 3));
    }

    private static void order(Book book) {
        book.refused(Book.FIRST, "no such paper, and no such remark", Expect.INDEX,
            () -> Keepers.answered(1), x -> x.answer(1, -1));
        book.refused(Book.FIRST, "no such paper, which has no draft either", Expect.INDEX,
            () -> Keepers.papers(1), x -> x.answer(1, 0));
    }

    private static PaperKeeper fourRemarks() {
        PaperKeeper x = Keepers.withDraft(1, 2, 3, 4);
        for (int person = 1; person <= 4; person++) {
            x.review(0, person, true);
        }
        return x;
    }

    private static PaperKeeper lastOfFour() {
        PaperKeeper x = fourRemarks();
        x.answer(0, 3);
        return x;
    }

    private static PaperKeeper changed() {
        PaperKeeper x = Keepers.remarked(1);
        x.change(0, 11);
        return x;
    }

    private static PaperKeeper changedAndRemarked() {
        PaperKeeper x = fourRemarks();
        x.change(0, 11);
        x.review(0, 4, true);
        return x;
    }

    private static PaperKeeper dropped() {
        PaperKeeper x = Keepers.remarked(1);
        x.drop(0);
        return x;
    }

    private static PaperKeeper secondDraft() {
        PaperKeeper x = dropped();
        x.draft(0, 0, 11);
        return x;
    }

    private static void threeToZero() {
        PaperKeeper x = fourRemarks();
        int[] remarks = {2, 0, 3, 1};
        for (int i = 0; i < 4; i++) {
            Expect.same("answer(0, " + remarks[i] + ")", x.answer(0, remarks[i]), 3 - i);
        }
    }

    private static void laterCounts() {
        PaperKeeper x = Keepers.withDraft(1, 2, 3);
        x.review(0, 1, true);
        x.review(0, 2, true);
        Expect.same("answer(0, 1)", x.answer(0, 1), 1);
        x.review(0, 3, true);
        Expect.same("answer(0, 0)", x.answer(0, 0), 1);
    }

    private static void withoutDoNotCount() {
        PaperKeeper x = Keepers.withDraft(1, 2, 3);
        x.review(0, 1, false);
        x.review(0, 2, true);
        x.review(0, 3, false);
        Expect.same("answer(0, 0)", x.answer(0, 0), 0);
    }

    private static void rightPaper() {
        PaperKeeper x = Keepers.remarked(8);
        x.answer(7, 0);
        x.answer(0, 0);
        for (int paper = 0; paper < 8; paper++) {
            Expect.same("step(" + paper + ")", x.step(paper), paper == 7 || paper == 0 ? 3 : 2);
        }
    }

    private static void untilTheLast() {
        PaperKeeper x = fourRemarks();
        for (int remark = 0; remark < 4; remark++) {
            Expect.same("step(0)", x.step(0), 2);
            x.answer(0, remark);
        }
        Expect.same("step(0)", x.step(0), 3);
    }

    private static void beforeAllReviewed() {
        PaperKeeper x = Keepers.withDraft(1, 2);
        x.review(0, 1, true);
        Expect.same("answer(0, 0)", x.answer(0, 0), 0);
        Expect.same("step(0)", x.step(0), 1);
    }
}
