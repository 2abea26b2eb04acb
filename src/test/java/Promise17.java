/** Promise 17: look. */
final class Promise17 {
    private static final String HAD = "Returns whether it had to be looked at";
    private static final String NO_VERSION = "it has no version in force";
    private static final String ENDS = "Looking at it ends both";
    private static final String ANEW = "the interval begins anew then, also if it need not have been looked at";

    private Promise17() {
    }

    static void tests(Book book) {
        book.promise(17, "look");
        Edges.paper(book, Keepers::inForce, PaperKeeper::look);
        book.refused(NO_VERSION, "a new paper", Expect.STATE, () -> Keepers.papers(1), x -> x.look(0));
        book.refused(NO_VERSION, "a draft in its round", Expect.STATE, Keepers::midway, x -> x.look(1));
        book.refused(NO_VERSION, "an approved one", Expect.STATE, () -> Keepers.approvedFor(1), x -> x.look(0));
        book.refused(NO_VERSION, "another paper has one", Expect.STATE, Keepers::midway, x -> x.look(3));
        book.test(NO_VERSION, "it has since today: allowed", Promise17::sinceToday);
        book.refused(Book.FIRST, "no such paper, which has no version either", Expect.INDEX,
            () -> Keepers.papers(1), x -> x.look(1));
        book.test(HAD, "false, 29 of 30 days", () -> lookAfter(30, 29, false));
        book.test(HAD, "true, 30 of 30 days", () -> lookAfter(30, 30, true));
        book.test(HAD, "true, 31 of 30 days", () -> lookAfter(30, 31, true));
        book.test(HAD, "true, 1 of 1 day", () -> lookAfter(1, 1, true));
        book.test(HAD, "false, 0 of 1 day", () -> lookAfter(1, 0, false));
        book.test(HAD, "false, 99 of 100 days", () -> lookAfter(100, 99, false));
        book.test(HAD, "true, 100 of 100 days", () -> lookAfter(100, 100, true));
        book.test(HAD, "true, it hangs on a new version", () -> Expect.same("look(0)", asked().look(0), true));
        book.test(HAD, "false, nothing that it hangs on is new", Promise17::nothingNew);
        book.test(ENDS, "the days", Promise17::endsDays);
        book.test(ENDS, "the new version that it hangs on", Promise17::endsAsking);
        book.test(ENDS, "both at once", Promise17::endsBothAtOnce);
        book.test(ENDS, "the next new version asks again", Promise17::asksAgain);
        book.test(ANEW, "it had to be looked at", () -> anew(30));
        book.test(ANEW, "it need not, a day before", () -> anew(29));
        book.test(ANEW, "it need not, on its first day", () -> anew(0));
        book.test(ANEW, "it was asked for, days before the interval's end", Promise17::anewWhenAsked);
        book.test("Looks at a paper", "at the right one of 8", Promise17::rightOne);
    }

    /** Paper 0 hangs on paper 1, which has a new version since today. */
    private static PaperKeeper asked() {
        PaperKeeper x = Keepers.inForce(2);
        x.hang(0, 1);
        Keepers.renew(x, 1, 20);
        return x;
    }

    private static void sinceToday() {
        PaperKeeper x = Keepers.approvedFor(1);
        x.pass(1);
        Expect.same("look(0)", x.look(0), false);
    }

    private static void lookAfter(int interval, int days, boolean due) {
        PaperKeeper x = Keepers.inForce(1);
        x.setInterval(interval);
        Keepers.passTo(x, 1 + days);
        Expect.same("look(0)", x.look(0), due);
    }

    private static void nothingNew() {
        PaperKeeper x = Keepers.inForce(3);
        x.hang(0, 1);
        Keepers.renew(x, 2, 20);
        Expect.same("look(0)", x.look(0), false);
    }

    private static void endsDays() {
        PaperKeeper x = Keepers.onDay(Keepers.inForce(1), 60);
        Expect.same("look(0)", x.look(0), true);
        Expect.same("isDue(0)", x.isDue(0), false);
        Expect.same("look(0) again", x.look(0), false);
    }

    private static void endsAsking() {
        PaperKeeper x = asked();
        Expect.same("look(0)", x.look(0), true);
        Expect.same("isDue(0)", x.isDue(0), false);
        Expect.same("look(0) again", x.look(0), false);
    }

    private static void endsBothAtOnce() {
        PaperKeeper x = Keepers.onDay(asked(), 60);
        Expect.same("look(0)", x.look(0), true);
        x.setInterval(100);
        Expect.same("isDue(0), asked", x.isDue(0), false);
        x.setInterval(1);
        Expect.same("isDue(0), by days", x.isDue(0), false);
    }

    private static void asksAgain() {
        PaperKeeper x = asked();
        x.look(0);
        Keepers.renew(x, 1, 30);
        Expect.same("look(0)", x.look(0), true);
    }

    private static void anew(int days) {
        PaperKeeper x = Keepers.onDay(Keepers.inForce(1), 1 + days);
        x.look(0);
        x.pass(29);
        Expect.same("isDue(0), 29 days on", x.isDue(0), false);
        x.pass(1);
        Expect.same("isDue(0), 30 days on", x.isDue(0), true);
    }

    private static void anewWhenAsked() {
        PaperKeeper x = Keepers.onDay(asked(), 20);
        x.look(0);
        x.pass(29);
        Expect.same("isDue(0), 29 days on", x.isDue(0), false);
        x.pass(1);
        Expect.same("isDue(0), 30 days on", x.isDue(0), true);
    }

    private static void rightOne() {
        PaperKeeper x = Keepers.onDay(Keepers.inForce(8), 31);
        x.look(7);
        x.look(0);
        for (int paper = 0; paper < 8; paper++) {
            Expect.same("isDue(" + paper + ")", x.isDue(paper), paper != 7 && paper != 0);
        }
    }
}
