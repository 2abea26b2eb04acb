/** Promise 26: inForceOn. */
final class Promise26 {
    private static final String WAS = "Returns the version that was in force on a day, told from the log";
    private static final String NONE = "Returns the version; -1 if there was none";
    private static final String OUT = "day is out of range";

    private Promise26() {
    }

    static void tests(Book book) {
        book.promise(26, "inForceOn");
        Edges.paper(book, Keepers::papers, (x, paper) -> x.inForceOn(paper, 0));
        for (int today : new int[] {0, 1, 7, 1000}) {
            Edges.range(book, "on day " + today + ", day", "day: 0 to today", OUT, 0, today,
                () -> Keepers.onDay(Keepers.approvedFor(1), today), (x, day) -> x.inForceOn(0, day));
        }
        book.refused(OUT, "-1 of a paper in force since day 1", Expect.ARGUMENT,
            () -> Keepers.inForce(1), x -> x.inForceOn(0, -1));
        book.refused(OUT, "the told day of an approved draft, being to come", Expect.ARGUMENT,
            () -> Keepers.approvedFor(5), x -> x.inForceOn(0, 5));
        order(book);
        book.test(NONE, "on day 0 of a new object", () -> is(Keepers.papers(1), 0, -1));
        book.test(NONE, "on the day before its first version's", () -> is(threeVersions(), 2, -1));
        book.test(NONE, "on day 0 before its first version's", () -> is(threeVersions(), 0, -1));
        book.test(NONE, "today, an approved draft being to come", () -> is(Keepers.approvedFor(5), 0, -1));
        book.test(NONE, "on days before the paper was opened", Promise26::openedLater);
        book.test(WAS, "0, on its first day", () -> is(threeVersions(), 3, 0));
        book.test(WAS, "0, on its last day", () -> is(threeVersions(), 5, 0));
        book.test(WAS, "1, on its first and only day", () -> is(threeVersions(), 6, 1));
        book.test(WAS, "2, on its first day", () -> is(threeVersions(), 7, 2));
        book.test(WAS, "2, today", () -> is(threeVersions(), 9, 2));
        book.test(WAS, "on day 1000, the last", () -> is(Keepers.onDay(threeVersions(), 1000), 1000, 2));
        book.test("what is in force is kept, and told from the log", "of all versions, later ones changing nothing",
            Promise26::laterDoNotChange);
        book.test(WAS, "the day of coming into force, not the told one", Promise26::notTheToldDay);
        book.test(WAS, "each of 8 papers its own", Promise26::eachItsOwn);
    }

    private static void order(Book book) {
        book.refused(Book.FIRST, "no such paper, and day -1", Expect.INDEX,
            () -> Keepers.inForce(1), x -> x.inForceOn(1, -1));
        book.refused(Book.FIRST, "no such paper, and a day to come", Expect.INDEX,
            () -> Keepers.inForce(1), x -> x.inForceOn(-1, 2));
    }

    private static void is(PaperKeeper x, int day, int due) {
        Expect.same("inForceOn(0, " + day + ")", x.inForceOn(0, day), due);
    }

    /** In force since days 3, 6 and 7; today is 9. */
    private static PaperKeeper threeVersions() {
        PaperKeeper x = Keepers.papers(1);
        for (int day : new int[] {3, 6, 7}) {
            Keepers.approve(x, 0, 10 + day, day);
            Keepers.passTo(x, day);
        }
        x.pass(2);
        return x;
    }

    private static void openedLater() {
        PaperKeeper x = Keepers.onDay(Keepers.papers(0), 5);
        x.open(false);
        is(x, 0, -1);
        is(x, 5, -1);
        Keepers.renew(x, 0, 10);
        is(x, 5, -1);
        is(x, 6, 0);
    }

    private static void laterDoNotChange() {
        PaperKeeper x = Keepers.inForce(1);
        is(x, 1, 0);
        Keepers.renew(x, 0, 20);
        is(x, 1, 0);
        is(x, 2, 1);
    }

    private static void notTheToldDay() {
        PaperKeeper x = Keepers.onDay(Keepers.approvedFor(2, 4), 5);
        x.confirm(0, 4);
        x.pass(1);
        is(x, 2, -1);
        is(x, 5, -1);
        is(x, 6, 0);
    }

    private static void eachItsOwn() {
        PaperKeeper x = Keepers.papers(8);
        for (int paper = 0; paper < 8; paper++) {
            Keepers.renew(x, paper, 10);
        }
        for (int paper = 0; paper < 8; paper++) {
            Expect.same("the day before of " + paper, x.inForceOn(paper, paper), -1);
            Expect.same("the day of " + paper, x.inForceOn(paper, paper + 1), 0);
        }
    }
}
