/** Promise 21: outOfDate. */
final class Promise21 {
    private static final String MANY = "Returns how many copies of a paper that hang are out of date";
    private static final String OUT = "It is out of date, if its version is not in force any more";

    private Promise21() {
    }

    static void tests(Book book) {
        book.promise(21, "outOfDate");
        Edges.paper(book, Keepers::papers, PaperKeeper::outOfDate);
        book.test(MANY, "0, no version", () -> Expect.same("the call", Keepers.papers(1).outOfDate(0), 0));
        book.test(MANY, "0, no copies", () -> Expect.same("the call", Keepers.inForce(1).outOfDate(0), 0));
        book.test(MANY, "0, all being of the version in force",
            () -> Expect.same("the call", Keepers.copied(30).outOfDate(0), 0));
        book.test(MANY, "30, all being of the former version",
            () -> Expect.same("the call", renewed(30).outOfDate(0), 30));
        book.test(MANY, "1, the only one", () -> Expect.same("the call", renewed(1).outOfDate(0), 1));
        book.test(MANY, "those that are down do not count", Promise21::downDoNotCount);
        book.test(MANY, "another paper's do not count", Promise21::anothersDoNotCount);
        book.test(MANY, "asking changes nothing", Promise21::askingChangesNothing);
        book.test(OUT, "those of the new version are not", Promise21::newOnesAreNot);
        book.test(OUT, "those of two former versions are", Promise21::twoFormer);
        book.test(OUT, "also if the new version has the same text", Promise21::sameText);
        book.test(OUT, "not by a draft, its approval or its being dropped", Promise21::notByDraft);
        book.test(OUT, "not by days",
            () -> Expect.same("the call", Keepers.onDay(Keepers.copied(3), 900).outOfDate(0), 0));
        book.test(OUT, "from the beginning of the day on", Promise21::fromTheDay);
        book.test(OUT, "not by another paper's new version", Promise21::notByAnother);
    }

    private static PaperKeeper renewed(int copies) {
        PaperKeeper x = Keepers.copied(copies);
        Keepers.renew(x, 0, 20);
        return x;
    }

    private static void downDoNotCount() {
        PaperKeeper x = renewed(3);
        x.takeDown(0);
        Expect.same("outOfDate(0)", x.outOfDate(0), 2);
        x.takeDown(2);
        Expect.same("outOfDate(0)", x.outOfDate(0), 1);
        x.takeDown(1);
        Expect.same("outOfDate(0)", x.outOfDate(0), 0);
    }

    private static void anothersDoNotCount() {
        PaperKeeper x = Keepers.inForce(8);
        for (int paper = 0; paper < 8; paper++) {
            for (int copy = 0; copy < paper % 4; copy++) {
                x.copy(paper, 0);
            }
        }
        for (int paper = 0; paper < 8; paper++) {
            Keepers.renew(x, paper, 20);
        }
        for (int paper = 0; paper < 8; paper++) {
            Expect.same("outOfDate(" + paper + ")", x.outOfDate(paper), paper % 4);
        }
    }

    private static void askingChangesNothing() {
        PaperKeeper x = renewed(3);
        x.outOfDate(0);
        Expect.same("outOfDate(0)", x.outOfDate(0), 3);
    }

    private static void newOnesAreNot() {
        PaperKeeper x = renewed(2);
        x.copy(0, 5);
        Expect.same("outOfDate(0)", x.outOfDate(0), 2);
    }

    private static void twoFormer() {
        PaperKeeper x = renewed(2);
        x.copy(0, 5);
        Keepers.renew(x, 0, 30);
        x.copy(0, 5);
        Expect.same("outOfDate(0)", x.outOfDate(0), 3);
    }

    private static void sameText() {
        PaperKeeper x = Keepers.copied(2);
        Keepers.renew(x, 0, 10);
        Expect.same("outOfDate(0)", x.outOfDate(0), 2);
    }

    private static void notByDraft() {
        PaperKeeper x = Keepers.copied(2);
        Keepers.approve(x, 0, 20, 5);
        Expect.same("outOfDate(0)", x.outOfDate(0), 0);
        x.drop(0);
        Expect.same("outOfDate(0), it being dropped", x.outOfDate(0), 0);
    }

    private static void fromTheDay() {
        PaperKeeper x = Keepers.copied(2);
        Keepers.approve(x, 0, 20, 5);
        x.pass(3);
        Expect.same("outOfDate(0), a day before", x.outOfDate(0), 0);
        x.pass(1);
        Expect.same("outOfDate(0), on the day", x.outOfDate(0), 2);
    }

    private static void notByAnother() {
        PaperKeeper x = Keepers.inForce(2);
        x.hang(0, 1);
        x.copy(0, 0);
        Keepers.renew(x, 1, 20);
        Expect.same("outOfDate(0)", x.outOfDate(0), 0);
    }
}
