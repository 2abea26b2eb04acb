/** Promise 18: isDue. */
final class Promise18 {
    private static final String TELLS = "Tells whether a paper has to be looked at";
    private static final String ASKED = "When a new version of a paper comes into force, each other paper that hangs"
        + " on it and has a version in force has to be looked at";
    private static final String ITSELF = "and it itself has not";
    private static final String DAYS = "A paper that has a version in force has to be looked at as well, when as many"
        + " days as the interval tells, 30 at first, or more, have gone by";
    private static final String SINCE = "since its version came into force, or since it was looked at last";

    private Promise18() {
    }

    static void tests(Book book) {
        book.promise(18, "isDue");
        Edges.paper(book, Keepers::papers, PaperKeeper::isDue);
        days(book);
        asked(book);
        itself(book);
        book.test(TELLS, "asking changes nothing, when its days have gone by", () -> askingChangesNothing(40));
        book.test(TELLS, "asking changes nothing, when it hangs on a new version", () -> askingChangesNothing(0));
        book.test(TELLS, "each of 8", Promise18::eachOfEight);
    }

    private static void days(Book book) {
        book.test(DAYS, "not on the first day", () -> dueAfter(30, 0, false));
        book.test(DAYS, "not when 29 have gone by", () -> dueAfter(30, 29, false));
        book.test(DAYS, "when 30 have gone by", () -> dueAfter(30, 30, true));
        book.test(DAYS, "when more have gone by", () -> dueAfter(30, 31, true));
        book.test(DAYS, "not on the first day, the interval being 1", () -> dueAfter(1, 0, false));
        book.test(DAYS, "on the next day, the interval being 1", () -> dueAfter(1, 1, true));
        book.test(DAYS, "not when 99 of 100 have gone by", () -> dueAfter(100, 99, false));
        book.test(DAYS, "when 100 of 100 have gone by", () -> dueAfter(100, 100, true));
        book.test(DAYS, "on day 1000 for a version of day 1", () -> dueAfter(100, 999, true));
        book.test(DAYS, "not without a version, whatever the days", Promise18::withoutVersion);
        book.test(DAYS, "as the interval is set now", Promise18::asSetNow);
        book.test(SINCE, "a new version begins it anew", Promise18::sinceNewVersion);
        book.test(SINCE, "a look begins it anew", Promise18::sinceLook);
        book.test(SINCE, "a draft, its change and its approval begin nothing anew", Promise18::draftBeginsNothing);
        book.test(SINCE, "it begins on the day of coming into force, not on the told one", Promise18::notTheToldDay);
    }

    private static void asked(Book book) {
        book.test(ASKED, "it hangs on it", () -> Expect.same("isDue(0)", renewed(0).isDue(0), true));
        book.test(ASKED, "it does not hang on it", () -> Expect.same("isDue(2)", renewed(0).isDue(2), false));
        book.test(ASKED, "it stays so as days go by", () -> Expect.same("isDue(0)", renewed(20).isDue(0), true));
        book.test(ASKED, "a first version asks as well", Promise18::firstVersionAsks);
        book.test(ASKED, "it has no version then, nor when it gets one later", Promise18::noVersionThen);
        book.test(ASKED, "an approved text asks nothing yet", Promise18::approvedAsksNothing);
        book.test(ASKED, "hanging on it behind that asks nothing", Promise18::hangingBehind);
        book.test(ASKED, "what hangs on one that hangs on it is not asked", Promise18::notFurther);
        book.test(ASKED, "all seven others", Promise18::allSeven);
        book.test(ASKED, "one of the seven that it hangs on", Promise18::oneOfSeven);
        book.test(ASKED, "on the same day, it having come before", Promise18::cameBefore);
        book.test(ASKED, "on the same day, it coming for the first time behind it", Promise18::comesBehind);
    }

    private static void itself(Book book) {
        book.test(ITSELF, "it was asked for before", Promise18::wasAskedBefore);
        book.test(ITSELF, "its days had gone by", Promise18::daysHadGoneBy);
        book.test(ITSELF, "others hang on it", () -> Expect.same("isDue(1)", renewed(0).isDue(1), false));
    }

    private static void dueAfter(int interval, int days, boolean due) {
        PaperKeeper x = Keepers.inForce(1);
        x.setInterval(interval);
        Keepers.passTo(x, 1 + days);
        Expect.same("isDue(0)", x.isDue(0), due);
    }

    private static void withoutVersion() {
        PaperKeeper x = Keepers.onDay(Keepers.answered(1), 60);
        x.setInterval(1);
        Expect.same("isDue(0)", x.isDue(0), false);
    }

    private static void asSetNow() {
        PaperKeeper x = Keepers.onDay(Keepers.inForce(1), 11);
        x.setInterval(10);
        Expect.same("isDue(0), 10 of 10 days", x.isDue(0), true);
        x.setInterval(11);
        Expect.same("isDue(0), 10 of 11 days", x.isDue(0), false);
    }

    private static void sinceNewVersion() {
        PaperKeeper x = Keepers.onDay(Keepers.inForce(1), 20);
        Keepers.renew(x, 0, 20);
        x.pass(29);
        Expect.same("isDue(0), 29 days on", x.isDue(0), false);
        x.pass(1);
        Expect.same("isDue(0), 30 days on", x.isDue(0), true);
    }

    private static void sinceLook() {
        PaperKeeper x = Keepers.onDay(Keepers.inForce(1), 20);
        x.look(0);
        x.pass(29);
        Expect.same("isDue(0), 29 days on", x.isDue(0), false);
        x.pass(1);
        Expect.same("isDue(0), 30 days on", x.isDue(0), true);
    }

    private static void draftBeginsNothing() {
        PaperKeeper x = Keepers.onDay(Keepers.inForce(1), 20);
        x.draft(0, 0, 20);
        x.change(0, 21);
        x.reviewer(0, 1);
        x.review(0, 1, false);
        x.approve(0, 2, 900);
        Keepers.passTo(x, 30);
        Expect.same("isDue(0), 29 days on", x.isDue(0), false);
        x.pass(1);
        Expect.same("isDue(0), 30 days on", x.isDue(0), true);
    }

    private static void notTheToldDay() {
        PaperKeeper x = Keepers.onDay(Keepers.approvedFor(2, 4), 9);
        x.confirm(0, 4);
        Keepers.passTo(x, 39);
        Expect.same("isDue(0), 29 days on", x.isDue(0), false);
        x.pass(1);
        Expect.same("isDue(0), 30 days on", x.isDue(0), true);
    }

    /** Paper 0 hangs on paper 1, which has a new version since that many days. */
    private static PaperKeeper renewed(int days) {
        PaperKeeper x = Keepers.inForce(3);
        x.hang(0, 1);
        Keepers.renew(x, 1, 20);
        Keepers.passTo(x, 2 + days);
        return x;
    }

    private static void firstVersionAsks() {
        PaperKeeper x = Keepers.inForce(1);
        x.open(false);
        x.hang(0, 1);
        Keepers.renew(x, 1, 20);
        Expect.same("isDue(0)", x.isDue(0), true);
    }

    private static void noVersionThen() {
        PaperKeeper x = Keepers.papers(2);
        x.hang(0, 1);
        Keepers.approve(x, 0, 10, 3);
        Keepers.renew(x, 1, 20);
        Expect.same("isDue(0)", x.isDue(0), false);
        x.pass(2);
        Expect.same("inForce(0)", x.inForce(0), 0);
        Expect.same("isDue(0), having a version", x.isDue(0), false);
    }

    private static void approvedAsksNothing() {
        PaperKeeper x = Keepers.inForce(2);
        x.hang(0, 1);
        Keepers.approve(x, 1, 20, 3);
        Expect.same("isDue(0)", x.isDue(0), false);
        x.pass(1);
        Expect.same("isDue(0), a day before", x.isDue(0), false);
        x.pass(1);
        Expect.same("isDue(0), on the day", x.isDue(0), true);
    }

    private static void hangingBehind() {
        PaperKeeper x = Keepers.inForce(2);
        Keepers.renew(x, 1, 20);
        x.hang(0, 1);
        Expect.same("isDue(0)", x.isDue(0), false);
    }

    private static void notFurther() {
        PaperKeeper x = Keepers.inForce(3);
        x.hang(0, 1);
        x.hang(1, 2);
        Keepers.renew(x, 2, 20);
        Expect.same("isDue(1)", x.isDue(1), true);
        Expect.same("isDue(0)", x.isDue(0), false);
        x.look(1);
        Expect.same("isDue(0) behind the look", x.isDue(0), false);
    }

    private static void allSeven() {
        PaperKeeper x = Keepers.inForce(8);
        for (int paper = 0; paper < 8; paper++) {
            if (paper != 3) {
                x.hang(paper, 3);
            }
        }
        Keepers.renew(x, 3, 20);
        for (int paper = 0; paper < 8; paper++) {
            Expect.same("isDue(" + paper + ")", x.isDue(paper), paper != 3);
        }
    }

    private static void oneOfSeven() {
        for (int other = 1; other < 8; other++) {
            PaperKeeper x = Keepers.inForce(8);
            for (int paper = 1; paper < 8; paper++) {
                x.hang(0, paper);
            }
            Keepers.renew(x, other, 20);
            Expect.same("isDue(0), " + other + " being new", x.isDue(0), true);
        }
    }

    private static void cameBefore() {
        PaperKeeper x = Keepers.inForce(2);
        x.hang(0, 1);
        Keepers.approve(x, 0, 20, 5);
        Keepers.approve(x, 1, 21, 5);
        x.pass(4);
        Expect.same("isDue(0)", x.isDue(0), true);
    }

    private static void comesBehind() {
        PaperKeeper x = Keepers.papers(2);
        x.hang(1, 0);
        Keepers.approve(x, 0, 20, 5);
        Keepers.approve(x, 1, 21, 5);
        x.pass(5);
        Expect.same("isDue(1)", x.isDue(1), false);
    }

    private static void wasAskedBefore() {
        PaperKeeper x = renewed(0);
        Keepers.renew(x, 0, 30);
        Expect.same("isDue(0)", x.isDue(0), false);
    }

    private static void daysHadGoneBy() {
        PaperKeeper x = Keepers.onDay(Keepers.inForce(1), 60);
        Keepers.renew(x, 0, 30);
        Expect.same("isDue(0)", x.isDue(0), false);
    }

    private static void askingChangesNothing(int days) {
        PaperKeeper x = renewed(days);
        for (int i = 0; i < 3; i++) {
            Expect.same("isDue(0)", x.isDue(0), true);
            Expect.same("isDue(2)", x.isDue(2), days >= 30);
        }
        Expect.same("look(0)", x.look(0), true);
    }

    private static void eachOfEight() {
        PaperKeeper x = Keepers.papers(8);
        x.setInterval(1);
        for (int paper = 0; paper < 8; paper++) {
            Keepers.approve(x, paper, 10, 2 + paper % 2);
        }
        x.pass(3);
        for (int paper = 0; paper < 8; paper++) {
            Expect.same("isDue(" + paper + ")", x.isDue(paper), paper % 2 == 0);
        }
    }
}
