/** Promise 24: inForce. */
final class Promise24 {
    private static final String VERSION = "Returns the version in force of a paper, -1 if there is none";
    private static final String NUMBERED = "Its versions are numbered from 0 as they come into force";

    private Promise24() {
    }

    static void tests(Book book) {
        book.promise(24, "inForce");
        Edges.paper(book, Keepers::papers, PaperKeeper::inForce);
        book.test(VERSION, "-1, a new paper", () -> is(Keepers.papers(1), -1));
        book.test(VERSION, "-1, an approved draft", () -> is(Keepers.approvedFor(5), -1));
        book.test(VERSION, "-1, on the day before the told one",
            () -> is(Keepers.onDay(Keepers.approvedFor(5), 4), -1));
        book.test(VERSION, "0, on the told day", () -> is(Keepers.onDay(Keepers.approvedFor(5), 5), 0));
        book.test(VERSION, "0, a draft being in its round", Promise24::besideDraft);
        book.test(VERSION, "0, a draft being dropped", Promise24::besideDropped);
        book.test(VERSION, "0, as long as there is no other", () -> is(Keepers.onDay(Keepers.inForce(1), 1000), 0));
        book.test(NUMBERED, "0, 1, 2", Promise24::oneMoreEach);
        book.test(NUMBERED, "dropped drafts have no number", Promise24::droppedHaveNone);
        book.test(NUMBERED, "each of 8 papers its own", Promise24::eachItsOwn);
    }

    private static void is(PaperKeeper x, int due) {
        Expect.same("inForce(0)", x.inForce(0), due);
    }

    private static void besideDraft() {
        PaperKeeper x = Keepers.inForce(1);
        x.draft(0, 0, 20);
        is(x, 0);
    }

    private static void besideDropped() {
        PaperKeeper x = Keepers.inForce(1);
        Keepers.approve(x, 0, 20, 3);
        x.drop(0);
        x.pass(5);
        is(x, 0);
    }

    private static void oneMoreEach() {
        PaperKeeper x = Keepers.papers(1);
        for (int version = 0; version < 3; version++) {
            Keepers.renew(x, 0, version);
            is(x, version);
        }
    }

    private static void droppedHaveNone() {
        PaperKeeper x = Keepers.inForce(1);
        x.draft(0, 0, 20);
        x.drop(0);
        Keepers.renew(x, 0, 30);
        is(x, 1);
    }

    private static void eachItsOwn() {
        PaperKeeper x = Keepers.papers(8);
        for (int paper = 0; paper < 8; paper++) {
            for (int version = 0; version < paper; version++) {
                Keepers.renew(x, paper, version);
            }
        }
        for (int paper = 0; paper < 8; paper++) {
            Expect.same("inForce(" + paper + ")", x.inForce(paper), paper - 1);
        }
    }
}
