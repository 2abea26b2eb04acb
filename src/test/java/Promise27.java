/** Promise 27: since. */
final class Promise27 {
    private static final String DAY = "Returns the day from which on a version was in force";
    private static final String NO_VERSION = "it has no such version";

    private Promise27() {
    }

    static void tests(Book book) {
        book.promise(27, "since");
        Edges.paper(book, Keepers::inForce, (x, paper) -> x.since(paper, 0));
        book.test(NO_VERSION, "the first of three, 0, is there", () -> is(threeVersions(), 0, 3));
        book.test(NO_VERSION, "the last of three, 2, is there", () -> is(threeVersions(), 2, 7));
        for (int wrong : new int[] {-1, 3, 4, 127, 128, 129, Integer.MIN_VALUE, Integer.MAX_VALUE}) {
            book.refused(NO_VERSION, wrong + " of three", Expect.INDEX,
                Promise27::threeVersions, x -> x.since(0, wrong));
        }
        for (int wrong : new int[] {-1, 0}) {
            book.refused(NO_VERSION, wrong + ", there being none", Expect.INDEX,
                () -> Keepers.papers(1), x -> x.since(0, wrong));
        }
        book.refused(NO_VERSION, "0, of an approved draft", Expect.INDEX,
            () -> Keepers.approvedFor(5), x -> x.since(0, 0));
        book.refused(NO_VERSION, "1, of an approved draft beside a version", Expect.INDEX,
            Keepers::midway, x -> x.since(0, 1));
        book.refused(NO_VERSION, "0, another paper having one", Expect.INDEX, Keepers::midway, x -> x.since(3, 0));
        book.refused(NO_VERSION, "1, another paper having three", Expect.INDEX,
            Promise27::besideThree, x -> x.since(1, 1));
        book.test(DAY, "1, the first there can be", () -> is(Keepers.inForce(1), 0, 1));
        book.test(DAY, "1000, the last there can be",
            () -> is(Keepers.onDay(Keepers.approvedFor(1000), 1000), 0, 1000));
        book.test(DAY, "the day of coming into force, not the told one", Promise27::notTheToldDay);
        book.test(DAY, "the former ones' stay", Promise27::formerOnesStay);
        book.test(DAY, "each of 8 papers its own", Promise27::eachItsOwn);
    }

    private static void is(PaperKeeper x, int version, int due) {
        Expect.same("since(0, " + version + ")", x.since(0, version), due);
    }

    /** In force since days 3, 6 and 7. */
    private static PaperKeeper threeVersions() {
        PaperKeeper x = Keepers.papers(2);
        for (int day : new int[] {3, 6, 7}) {
            Keepers.approve(x, 0, 10 + day, day);
            Keepers.passTo(x, day);
        }
        return x;
    }

    private static PaperKeeper besideThree() {
        PaperKeeper x = threeVersions();
        Keepers.renew(x, 1, 10);
        return x;
    }

    private static void notTheToldDay() {
        PaperKeeper x = Keepers.onDay(Keepers.approvedFor(2, 4), 5);
        x.confirm(0, 4);
        x.pass(10);
        is(x, 0, 6);
    }

    private static void formerOnesStay() {
        PaperKeeper x = Keepers.onDay(threeVersions(), 40);
        is(x, 0, 3);
        is(x, 1, 6);
        is(x, 2, 7);
    }

    private static void eachItsOwn() {
        PaperKeeper x = Keepers.papers(8);
        for (int paper = 0; paper < 8; paper++) {
            Keepers.renew(x, paper, 10);
        }
        for (int paper = 0; paper < 8; paper++) {
            Expect.same("since(" + paper + ", 0)", x.since(paper, 0), paper + 1);
        }
    }
}
