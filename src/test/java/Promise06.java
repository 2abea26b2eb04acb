/** Promise 6: setInterval. */
final class Promise06 {
    private static final String BEFORE = "Returns the interval before";
    private static final String SETS = "Sets the interval of looks";
    private static final String DAYS = "as many days as the interval tells, 30 at first, or more, have gone by";

    private Promise06() {
    }

    static void tests(Book book) {
        book.promise(6, "setInterval");
        Edges.range(book, "days", "days: 1 to 100", "days is out of range", 1, 100,
            Keepers::midway, (x, days) -> x.setInterval(days));
        book.refused("days is out of range", "-1", Expect.ARGUMENT, PaperKeeper::new, x -> x.setInterval(-1));
        book.test(BEFORE, "30 at first", () -> Expect.same("setInterval(7)", new PaperKeeper().setInterval(7), 30));
        book.test(BEFORE, "the least and the last one", Promise06::leastAndLast);
        book.test(BEFORE, "the same one again", Promise06::sameAgain);
        book.test(BEFORE, "a call that is refused keeps it", Promise06::keptByRefused);
        book.test(SETS, "1 day: due on the next day, not on the same", () -> dueAfter(1));
        book.test(SETS, "100 days: due on the 100th, not on the 99th", () -> dueAfter(100));
        book.test(SETS, "a longer one puts a look off", Promise06::longer);
        book.test(SETS, "a shorter one makes a look due", Promise06::shorter);
        book.test(SETS, "for all papers", Promise06::forAllPapers);
        book.test(DAYS, "30 days, nothing being set", Promise06::thirtyAtFirst);
    }

    private static void leastAndLast() {
        PaperKeeper x = new PaperKeeper();
        x.setInterval(1);
        Expect.same("setInterval(100)", x.setInterval(100), 1);
        Expect.same("setInterval(50)", x.setInterval(50), 100);
    }

    private static void sameAgain() {
        PaperKeeper x = new PaperKeeper();
        Expect.same("setInterval(30)", x.setInterval(30), 30);
        Expect.same("setInterval(30) again", x.setInterval(30), 30);
    }

    private static void keptByRefused() {
        PaperKeeper x = new PaperKeeper();
        x.setInterval(7);
        Expect.fails("setInterval(0)", Expect.ARGUMENT, () -> x.setInterval(0));
        Expect.fails("setInterval(101)", Expect.ARGUMENT, () -> x.setInterval(101));
        Expect.same("setInterval(8)", x.setInterval(8), 7);
    }

    private static void dueAfter(int days) {
        PaperKeeper x = Keepers.inForce(1);
        x.setInterval(days);
        Keepers.passTo(x, days);
        Expect.same("isDue(0) a day before", x.isDue(0), false);
        x.pass(1);
        Expect.same("isDue(0) on the day", x.isDue(0), true);
    }

    private static void longer() {
        PaperKeeper x = Keepers.onDay(Keepers.inForce(1), 31);
        Expect.same("isDue(0), 30 days", x.isDue(0), true);
        x.setInterval(31);
        Expect.same("isDue(0), 31 days", x.isDue(0), false);
    }

    private static void shorter() {
        PaperKeeper x = Keepers.onDay(Keepers.inForce(1), 30);
        Expect.same("isDue(0), 30 days", x.isDue(0), false);
        x.setInterval(29);
        Expect.same("isDue(0), 29 days", x.isDue(0), true);
    }

    private static void forAllPapers() {
        PaperKeeper x = Keepers.onDay(Keepers.inForce(8), 3);
        x.setInterval(2);
        for (int paper = 0; paper < 8; paper++) {
            Expect.same("isDue(" + paper + ")", x.isDue(paper), true);
        }
    }

    private static void thirtyAtFirst() {
        PaperKeeper x = Keepers.onDay(Keepers.inForce(1), 30);
        Expect.same("isDue(0), 29 days on", x.isDue(0), false);
        x.pass(1);
        Expect.same("isDue(0), 30 days on", x.isDue(0), true);
    }
}
