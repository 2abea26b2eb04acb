/** Promise 14: approve. */
final class Promise14 {
    private static final String OUT = "person or day is out of range";
    private static final String DAY = "day: from which on it is to be in force, later than today, at most 1000";
    private static final String NO_DRAFT = "the paper has no draft";
    private static final String NOT_OVER = "its round is not over";
    private static final String APPROVED = "it is approved";
    private static final String MAY_NOT = "the person may not approve it";
    private static final String OVER = "When all reviewers have reviewed, and no remark is open, the round is over";
    private static final String BY = "by somebody who may approve, or who is the deputy of somebody who may";
    private static final String NOT_AUTHOR = "but not by the author";
    private static final String LATER = "When it is approved, a day is told from which on it is to be in force,"
        + " which is later than today";

    private Promise14() {
    }

    static void tests(Book book) {
        book.promise(14, "approve");
        Edges.paper(book, Keepers::answered, (x, paper) -> x.approve(paper, 2, 5));
        Edges.range(book, "person", "person: 0 to 5", OUT, 0, 5,
            () -> reviewedDraftOf(3), (x, person) -> x.approve(0, person, 1));
        days(book);
        noDraft(book);
        rounds(book);
        approved(book);
        persons(book);
        author(book);
        order(book);
        book.test("Approves a draft", "of the right paper of 8", Promise14::rightPaper);
    }

    private static void days(Book book) {
        Edges.range(book, "on day 0, day", DAY, OUT, 1, 1000, Keepers::reviewed, (x, day) -> x.approve(0, 2, day));
        Edges.range(book, "on day 7, day", DAY, OUT, 8, 1000,
            () -> Keepers.onDay(Keepers.reviewed(), 7), (x, day) -> x.approve(0, 2, day));
        Edges.range(book, "on day 999, day", DAY, OUT, 1000, 1000,
            () -> Keepers.onDay(Keepers.reviewed(), 999), (x, day) -> x.approve(0, 2, day));
        book.refused(OUT, "on day 7, day 0", Expect.ARGUMENT,
            () -> Keepers.onDay(Keepers.reviewed(), 7), x -> x.approve(0, 2, 0));
        for (int day : new int[] {0, 999, 1000, 1001}) {
            book.refused(OUT, "on day 1000 no day is later, " + day, Expect.ARGUMENT,
                () -> Keepers.onDay(Keepers.reviewed(), 1000), x -> x.approve(0, 2, day));
        }
        book.test(LATER, "tomorrow: it comes on the next day", Promise14::tomorrow);
        book.test(LATER, "1000, the last: it comes on day 1000, not on 999", Promise14::lastDay);
    }

    private static void noDraft(Book book) {
        book.refused(NO_DRAFT, "a new paper", Expect.STATE, () -> Keepers.papers(1), x -> x.approve(0, 2, 5));
        book.refused(NO_DRAFT, "it was dropped", Expect.STATE, Promise14::dropped, x -> x.approve(0, 2, 5));
        book.refused(NO_DRAFT, "it came into force", Expect.STATE, () -> Keepers.inForce(1), x -> x.approve(0, 2, 5));
        book.refused(NO_DRAFT, "another paper has one", Expect.STATE, Keepers::midway, x -> x.approve(2, 2, 5));
    }

    private static void rounds(Book book) {
        book.refused("without reviewers it never is", "there are none", Expect.STATE,
            () -> Keepers.withDraft(), x -> x.approve(0, 2, 5));
        book.refused("without reviewers it never is", "there are none behind a change", Expect.STATE,
            Promise14::changedWithoutReviewers, x -> x.approve(0, 2, 5));
        book.refused(NOT_OVER, "nobody has reviewed", Expect.STATE,
            () -> Keepers.withDraft(1), x -> x.approve(0, 2, 5));
        book.refused(NOT_OVER, "the last one has not reviewed", Expect.STATE,
            () -> threeOfFourReviewed(4), x -> x.approve(0, 5, 5));
        book.refused(NOT_OVER, "the first one has not reviewed", Expect.STATE,
            () -> threeOfFourReviewed(1), x -> x.approve(0, 5, 5));
        book.refused(NOT_OVER, "a remark is open", Expect.STATE, () -> Keepers.remarked(1), x -> x.approve(0, 2, 5));
        book.refused(NOT_OVER, "the first of two remarks is open", Expect.STATE,
            () -> oneOfTwoAnswered(1), x -> x.approve(0, 5, 5));
        book.refused(NOT_OVER, "the last of two remarks is open", Expect.STATE,
            () -> oneOfTwoAnswered(0), x -> x.approve(0, 5, 5));
        book.refused(NOT_OVER, "one more reviewer was named", Expect.STATE,
            Promise14::oneMoreReviewer, x -> x.approve(0, 5, 5));
        book.refused(NOT_OVER, "the text was changed", Expect.STATE, Promise14::changed, x -> x.approve(0, 5, 5));
        book.test(OVER, "one reviewer, no remark", () -> approvable(Keepers.reviewed()));
        book.test(OVER, "four reviewers", Promise14::fourReviewers);
        book.test("Behind the round it can be approved", "also days later",
            () -> approvable(Keepers.onDay(Keepers.reviewed(), 2)));
        book.test(OVER, "remarks, all answered", () -> approvable(Keepers.answered(1)));
    }

    private static void approved(Book book) {
        book.refused(APPROVED, "by the same, for the same day", Expect.STATE,
            () -> Keepers.approvedFor(5), x -> x.approve(0, 2, 5));
        book.refused(APPROVED, "by another, for another day", Expect.STATE,
            () -> Keepers.approvedFor(5), x -> x.approve(0, 3, 2));
        book.refused(APPROVED, "waiting for a reader", Expect.STATE, Keepers::midway, x -> x.approve(0, 3, 30));
        book.test(APPROVED, "not any more behind a change: allowed", Promise14::approvedAgain);
    }

    private static void persons(Book book) {
        for (int person : new int[] {0, 5}) {
            book.test(BY, "person " + person + ", the only one who may", () -> onlyOneMay(person));
            book.refused(MAY_NOT, "person " + person + ", the only one who may not", Expect.STATE,
                () -> allButOneMay(person), x -> x.approve(0, person, 5));
        }
        for (int person = 0; person < 6; person++) {
            int each = person;
            book.test(BY, "the deputy of person " + person, () -> deputyOf(each));
        }
        book.refused(MAY_NOT, "the deputy of one who may not", Expect.STATE,
            () -> withDeputies(false), x -> x.approve(0, 4, 5));
        book.refused(MAY_NOT, "the deputy of a deputy", Expect.STATE,
            () -> withDeputies(true), x -> x.approve(0, 5, 5));
        book.refused(MAY_NOT, "one whose deputy may", Expect.STATE,
            Promise14::deputyMay, x -> x.approve(0, 4, 5));
        book.refused(MAY_NOT, "one who is a deputy no more", Expect.STATE,
            Promise14::deputyNoMore, x -> x.approve(0, 4, 5));
        book.test(BY, "one who may, and is the deputy of one who may not", Promise14::mayAndDeputy);
        book.test(BY, "the deputy of two, of whom the last one may", Promise14::deputyOfTwo);
        book.test(BY, "a reviewer and reader of it", Promise14::reviewerAndReader);
        book.test(BY, "taking the role away behind it changes nothing", Promise14::roleTakenAway);
    }

    private static void author(Book book) {
        book.refused(NOT_AUTHOR, "who may approve, 0", Expect.STATE,
            () -> reviewedDraftOf(0), x -> x.approve(0, 0, 5));
        book.refused(NOT_AUTHOR, "who may approve, 5", Expect.STATE,
            () -> reviewedDraftOf(5), x -> x.approve(0, 5, 5));
        book.refused(NOT_AUTHOR, "who is the deputy of one who may", Expect.STATE,
            Promise14::authorIsDeputy, x -> x.approve(0, 0, 5));
        book.test(NOT_AUTHOR, "the author of another paper's draft may", Promise14::anotherPapersAuthor);
        book.test(NOT_AUTHOR, "the author's deputy is not the author", Promise14::authorsDeputy);
    }

    private static void order(Book book) {
        book.refused(Book.FIRST, "no such paper, person 6 and day 0", Expect.INDEX,
            () -> Keepers.answered(1), x -> x.approve(1, 6, 0));
        book.refused(Book.FIRST, "person 6, and no draft", Expect.ARGUMENT,
            () -> Keepers.papers(1), x -> x.approve(0, 6, 5));
        book.refused(Book.FIRST, "today, and no draft", Expect.ARGUMENT,
            () -> Keepers.papers(1), x -> x.approve(0, 2, 0));
        book.refused(Book.FIRST, "day 1001, and the round is not over", Expect.ARGUMENT,
            () -> Keepers.drafts(1), x -> x.approve(0, 2, 1001));
        book.refused(Book.FIRST, "today, and it is approved", Expect.ARGUMENT,
            () -> Keepers.approved(1), x -> x.approve(0, 2, 0));
        book.refused(Book.FIRST, "today, and by the author", Expect.ARGUMENT,
            () -> Keepers.answered(1), x -> x.approve(0, 0, 0));
    }

    /** Behind its round; everybody may approve. */
    private static PaperKeeper reviewedDraftOf(int author) {
        int reviewer = author == 1 ? 2 : 1;
        PaperKeeper x = Keepers.papers(1);
        x.draft(0, author, 10);
        x.reviewer(0, reviewer);
        x.review(0, reviewer, false);
        return x;
    }

    private static PaperKeeper nobodyMay(int author) {
        PaperKeeper x = reviewedDraftOf(author);
        for (int person = 0; person < 6; person++) {
            x.setRoles(person, true, false);
        }
        return x;
    }

    private static PaperKeeper allButOneMay(int person) {
        PaperKeeper x = reviewedDraftOf(3);
        x.setRoles(person, true, false);
        return x;
    }

    /** Only person 2 may approve, if so; 4 is the deputy of 2, and 5 of 4. */
    private static PaperKeeper withDeputies(boolean may) {
        PaperKeeper x = nobodyMay(0);
        x.setRoles(2, false, may);
        x.setDeputy(2, 4);
        x.setDeputy(4, 5);
        return x;
    }

    private static PaperKeeper deputyMay() {
        PaperKeeper x = nobodyMay(0);
        x.setRoles(2, false, true);
        x.setDeputy(4, 2);
        return x;
    }

    private static PaperKeeper deputyNoMore() {
        PaperKeeper x = withDeputies(true);
        x.setDeputy(2, -1);
        return x;
    }

    private static PaperKeeper authorIsDeputy() {
        PaperKeeper x = nobodyMay(0);
        x.setRoles(2, false, true);
        x.setDeputy(2, 0);
        return x;
    }

    private static PaperKeeper dropped() {
        PaperKeeper x = Keepers.answered(1);
        x.drop(0);
        return x;
    }

    private static PaperKeeper changed() {
        PaperKeeper x = Keepers.reviewed();
        x.change(0, 11);
        return x;
    }

    private static PaperKeeper changedWithoutReviewers() {
        PaperKeeper x = Keepers.withDraft();
        x.change(0, 11);
        return x;
    }

    private static PaperKeeper threeOfFourReviewed(int missing) {
        PaperKeeper x = Keepers.withDraft(1, 2, 3, 4);
        for (int person = 1; person <= 4; person++) {
            if (person != missing) {
                x.review(0, person, false);
            }
        }
        return x;
    }

    private static PaperKeeper oneOfTwoAnswered(int answered) {
        PaperKeeper x = Keepers.withDraft(1, 2);
        x.review(0, 1, true);
        x.review(0, 2, true);
        x.answer(0, answered);
        return x;
    }

    private static PaperKeeper oneMoreReviewer() {
        PaperKeeper x = Keepers.reviewed();
        x.reviewer(0, 3);
        return x;
    }

    private static void approvable(PaperKeeper x) {
        Expect.passes("approve(0, 5, 3)", () -> x.approve(0, 5, 3));
        Expect.fails("approve(0, 5, 3) again", Expect.STATE, () -> x.approve(0, 5, 3));
    }

    private static void fourReviewers() {
        PaperKeeper x = threeOfFourReviewed(3);
        x.review(0, 3, false);
        approvable(x);
    }

    private static void tomorrow() {
        PaperKeeper x = Keepers.onDay(Keepers.reviewed(), 7);
        x.approve(0, 2, 8);
        Expect.same("inForce(0)", x.inForce(0), -1);
        Expect.same("pass(1)", x.pass(1), 1);
        Expect.same("since(0, 0)", x.since(0, 0), 8);
    }

    private static void lastDay() {
        PaperKeeper x = Keepers.reviewed();
        x.approve(0, 2, 1000);
        Keepers.passTo(x, 999);
        Expect.same("inForce(0)", x.inForce(0), -1);
        Expect.same("pass(1)", x.pass(1), 1);
        Expect.same("since(0, 0)", x.since(0, 0), 1000);
    }

    private static void approvedAgain() {
        PaperKeeper x = Keepers.approvedFor(5);
        x.change(0, 11);
        x.review(0, 1, false);
        approvable(x);
    }

    private static void onlyOneMay(int person) {
        PaperKeeper x = nobodyMay(3);
        x.setRoles(person, false, true);
        Expect.passes("approve(0, " + person + ", 1)", () -> x.approve(0, person, 1));
    }

    private static void deputyOf(int person) {
        int deputy = (person + 1) % 6;
        PaperKeeper x = nobodyMay((person + 2) % 6);
        x.setDeputy(person, deputy);
        Expect.fails("approve, when nobody may", Expect.STATE, () -> x.approve(0, deputy, 1));
        x.setRoles(person, false, true);
        Expect.passes("approve(0, " + deputy + ", 1)", () -> x.approve(0, deputy, 1));
    }

    private static void mayAndDeputy() {
        PaperKeeper x = nobodyMay(0);
        x.setRoles(4, false, true);
        x.setDeputy(2, 4);
        Expect.passes("approve(0, 4, 1)", () -> x.approve(0, 4, 1));
    }

    private static void deputyOfTwo() {
        PaperKeeper x = nobodyMay(0);
        x.setDeputy(2, 4);
        x.setDeputy(5, 4);
        x.setRoles(5, false, true);
        Expect.passes("approve(0, 4, 1)", () -> x.approve(0, 4, 1));
    }

    private static void reviewerAndReader() {
        PaperKeeper x = Keepers.reviewed();
        x.reader(0, 1);
        Expect.passes("approve(0, 1, 1)", () -> x.approve(0, 1, 1));
    }

    private static void roleTakenAway() {
        PaperKeeper x = Keepers.approvedFor(1);
        for (int person = 0; person < 6; person++) {
            x.setRoles(person, false, false);
        }
        Expect.same("step(0)", x.step(0), 5);
        Expect.same("pass(1)", x.pass(1), 1);
    }

    private static void anotherPapersAuthor() {
        PaperKeeper x = Keepers.answered(1);
        x.open(false);
        x.draft(1, 5, 20);
        Expect.passes("approve(0, 5, 1)", () -> x.approve(0, 5, 1));
    }

    private static void authorsDeputy() {
        PaperKeeper x = nobodyMay(0);
        x.setRoles(0, false, true);
        x.setDeputy(0, 5);
        Expect.passes("approve(0, 5, 1)", () -> x.approve(0, 5, 1));
    }

    private static void rightPaper() {
        PaperKeeper x = Keepers.answered(8);
        x.approve(7, 2, 5);
        x.approve(0, 2, 5);
        for (int paper = 0; paper < 8; paper++) {
            Expect.same("step(" + paper + ")", x.step(paper), paper == 7 || paper == 0 ? 4 : 3);
        }
    }
}
