/** Promise 16: pass. */
final class Promise16 {
    private static final String MANY = "Returns how many versions come into force";
    private static final String OUT = "days is out of range";
    private static final String ABOVE = "the day would be above 1000";
    private static final String FIRST_DAY =
        "It comes into force at the beginning of the first day that is not before the told one";
    private static final String CONFIRMED = "by which all its readers have confirmed";
    private static final String NUMBERS = "papers are gone through by their numbers then";
    private static final String NEW =
        "It is the new version then, the former one is out, and the paper has no draft any more";

    private Promise16() {
    }

    static void tests(Book book) {
        book.promise(16, "pass");
        Edges.range(book, "days", "days: 1 to 50", OUT, 1, 50, Keepers::midway, PaperKeeper::pass);
        book.refused(OUT, "-1", Expect.ARGUMENT, Keepers::midway, x -> x.pass(-1));
        book.test("Lets days go by", "1, the least", () -> passes(1));
        book.test("Lets days go by", "50, the most", () -> passes(50));
        lastDay(book);
        order(book);
        counts(book);
        toldDay(book);
        confirmations(book);
        notReady(book);
        book.test(NUMBERS, "one that hangs on a higher number is asked", Promise16::hangsOnHigher);
        book.test(NUMBERS, "one that hangs on a lower number is not", Promise16::hangsOnLower);
        book.test(NUMBERS, "on another day the day counts, not the number", Promise16::dayCounts);
        book.test(NEW, "the new version", Promise16::newVersion);
        book.test(NEW, "the paper has no draft", Promise16::noDraft);
        book.test(NEW, "the former one is out", Promise16::formerIsOut);
        book.test(NEW, "the same text again is a new version", Promise16::sameTextAgain);
    }

    private static void lastDay(Book book) {
        book.test(ABOVE, "to day 1000 is allowed: 1 from 999", () -> toLastDay(999, 1));
        book.test(ABOVE, "to day 1000 is allowed: 50 from 950", () -> toLastDay(950, 50));
        book.refused(ABOVE, "2 from 999", Expect.STATE, () -> readyOn(999), x -> x.pass(2));
        book.refused(ABOVE, "50 from 951", Expect.STATE, () -> readyOn(951), x -> x.pass(50));
        book.refused(ABOVE, "50 from 999", Expect.STATE, () -> readyOn(999), x -> x.pass(50));
        book.refused(ABOVE, "1 from 1000", Expect.STATE, () -> dayOf(1000), x -> x.pass(1));
        book.refused(ABOVE, "50 from 1000", Expect.STATE, () -> dayOf(1000), x -> x.pass(50));
    }

    private static void order(Book book) {
        for (int days : new int[] {0, -1, 51, Integer.MAX_VALUE, Integer.MIN_VALUE}) {
            book.refused(Book.FIRST, days + " days on day 1000", Expect.ARGUMENT, () -> dayOf(1000), x -> x.pass(days));
        }
        book.refused(Book.FIRST, "51 days on day 950", Expect.ARGUMENT, () -> readyOn(950), x -> x.pass(51));
    }

    private static void counts(Book book) {
        book.test(MANY, "0 without papers", () -> Expect.same("pass(1)", new PaperKeeper().pass(1), 0));
        book.test(MANY, "0 without drafts", () -> Expect.same("pass(50)", Keepers.inForce(8).pass(50), 0));
        book.test(MANY, "1", () -> Expect.same("pass(1)", Keepers.approvedFor(1).pass(1), 1));
        book.test(MANY, "8, all papers on one day", () -> Expect.same("pass(5)", ready(8).pass(5), 8));
        book.test(MANY, "8 on eight days, all within 50", Promise16::eightDays);
        book.test(MANY, "only those of these days", Promise16::onlyThese);
    }

    private static void toldDay(Book book) {
        book.test(FIRST_DAY, "not on the day before the told one", () -> onlyOn(3));
        book.test(FIRST_DAY, "tomorrow", () -> onlyOn(1));
        book.test(FIRST_DAY, "50 days on, within one call",
            () -> Expect.same("the call", Keepers.approvedFor(50).pass(50), 1));
        book.test(FIRST_DAY, "51 days on, not within one call",
            () -> Expect.same("the call", Keepers.approvedFor(51).pass(50), 0));
        book.test(FIRST_DAY, "on its day, other days going by behind it", Promise16::withinManyDays);
    }

    private static void confirmations(Book book) {
        book.test(CONFIRMED, "before the told day: on the told day", () -> confirmedOn(2, 5, 5));
        book.test(CONFIRMED, "on the day before the told one: on the told day", () -> confirmedOn(4, 5, 5));
        book.test(CONFIRMED, "on the told day: on the next", () -> confirmedOn(5, 5, 6));
        book.test(CONFIRMED, "behind the told day: on the next", () -> confirmedOn(9, 5, 10));
        book.test(CONFIRMED, "one of six has not", Promise16::oneOfSixHasNot);
        book.test(CONFIRMED, "no readers", () -> Expect.same("the call", Keepers.approvedFor(1).pass(1), 1));
        book.test(CONFIRMED, "it does not come on the day of the confirmation itself", Promise16::notOnThatDay);
    }

    private static void notReady(Book book) {
        book.test(MANY, "none: no reviewers", () -> doesNotCome(Keepers.withDraft()));
        book.test(MANY, "none: nobody has reviewed", () -> doesNotCome(Keepers.withDraft(1)));
        book.test(MANY, "none: a remark is open", () -> doesNotCome(Keepers.remarked(1)));
        book.test(MANY, "none: not approved", () -> doesNotCome(Keepers.answered(1)));
        book.test(MANY, "none: a reader has not confirmed", () -> doesNotCome(Keepers.approved(1)));
    }

    private static PaperKeeper dayOf(int day) {
        return Keepers.onDay(Keepers.inForce(1), day);
    }

    /** A version comes into force on the day behind this one. */
    private static PaperKeeper readyOn(int day) {
        PaperKeeper x = dayOf(day);
        Keepers.approve(x, 0, 20, day + 1);
        return x;
    }

    /** As many papers whose drafts come into force on day 5. */
    private static PaperKeeper ready(int count) {
        PaperKeeper x = Keepers.approved(count);
        for (int paper = 0; paper < count; paper++) {
            x.confirm(paper, 4);
        }
        return x;
    }

    private static void passes(int days) {
        PaperKeeper x = new PaperKeeper();
        x.pass(days);
        Expect.same("day()", x.day(), days);
        x.pass(days);
        Expect.same("day()", x.day(), 2 * days);
    }

    private static void toLastDay(int from, int days) {
        PaperKeeper x = readyOn(from);
        Expect.same("pass(" + days + ")", x.pass(days), 1);
        Expect.same("day()", x.day(), 1000);
    }

    private static void eightDays() {
        PaperKeeper x = Keepers.papers(8);
        for (int paper = 0; paper < 8; paper++) {
            Keepers.approve(x, paper, 10, paper == 0 ? 50 : 7 * paper);
        }
        Expect.same("pass(50)", x.pass(50), 8);
        Expect.same("since(1, 0)", x.since(1, 0), 7);
        Expect.same("since(0, 0)", x.since(0, 0), 50);
    }

    private static void onlyThese() {
        PaperKeeper x = Keepers.papers(3);
        Keepers.approve(x, 0, 10, 2);
        Keepers.approve(x, 1, 10, 3);
        Keepers.approve(x, 2, 10, 4);
        Expect.same("pass(2)", x.pass(2), 1);
        Expect.same("pass(1)", x.pass(1), 1);
        Expect.same("pass(5)", x.pass(5), 1);
        Expect.same("pass(5)", x.pass(5), 0);
    }

    private static void onlyOn(int told) {
        PaperKeeper x = Keepers.approvedFor(told);
        for (int day = 1; day < told; day++) {
            Expect.same("pass(1) to day " + day, x.pass(1), 0);
        }
        Expect.same("pass(1) to day " + told, x.pass(1), 1);
        Expect.same("since(0, 0)", x.since(0, 0), told);
    }

    private static void withinManyDays() {
        PaperKeeper x = Keepers.approvedFor(3);
        Expect.same("pass(50)", x.pass(50), 1);
        Expect.same("since(0, 0)", x.since(0, 0), 3);
        Expect.same("inForceOn(0, 2)", x.inForceOn(0, 2), -1);
    }

    private static void confirmedOn(int day, int told, int due) {
        PaperKeeper x = Keepers.onDay(Keepers.approvedFor(told, 4), day);
        x.confirm(0, 4);
        x.pass(20);
        Expect.same("since(0, 0)", x.since(0, 0), due);
    }

    private static void oneOfSixHasNot() {
        for (int missing = 0; missing < 6; missing++) {
            PaperKeeper x = Keepers.approvedFor(1, 0, 1, 2, 3, 4, 5);
            for (int person = 0; person < 6; person++) {
                if (person != missing) {
                    x.confirm(0, person);
                }
            }
            Expect.same("pass(50), without " + missing, x.pass(50), 0);
            x.confirm(0, missing);
            Expect.same("pass(1), with " + missing, x.pass(1), 1);
        }
    }

    private static void notOnThatDay() {
        PaperKeeper x = Keepers.onDay(Keepers.approvedFor(2, 4), 7);
        x.confirm(0, 4);
        Expect.same("inForce(0)", x.inForce(0), -1);
        Expect.same("step(0)", x.step(0), 5);
    }

    private static void doesNotCome(PaperKeeper x) {
        Expect.same("pass(50)", x.pass(50), 0);
        Expect.same("inForce(0)", x.inForce(0), -1);
    }

    /** Two papers, each hanging on the other, come into force on one day. */
    private static PaperKeeper onOneDay() {
        PaperKeeper x = Keepers.papers(2);
        x.hang(0, 1);
        x.hang(1, 0);
        Keepers.approve(x, 0, 10, 3);
        Keepers.approve(x, 1, 11, 3);
        x.pass(3);
        return x;
    }

    private static void hangsOnHigher() {
        Expect.same("isDue(0)", onOneDay().isDue(0), true);
    }

    private static void hangsOnLower() {
        Expect.same("isDue(1)", onOneDay().isDue(1), false);
    }

    private static void dayCounts() {
        PaperKeeper x = Keepers.papers(2);
        x.hang(0, 1);
        x.hang(1, 0);
        Keepers.approve(x, 0, 10, 3);
        Keepers.approve(x, 1, 11, 2);
        x.pass(4);
        Expect.same("isDue(0)", x.isDue(0), false);
        Expect.same("isDue(1)", x.isDue(1), true);
    }

    private static void newVersion() {
        PaperKeeper x = ready(8);
        x.pass(5);
        for (int paper = 0; paper < 8; paper++) {
            Expect.same("inForce(" + paper + ")", x.inForce(paper), 0);
            Expect.same("text(" + paper + ")", x.text(paper), 10 + paper);
        }
    }

    private static void noDraft() {
        PaperKeeper x = Keepers.approvedFor(1);
        x.pass(1);
        Expect.same("step(0)", x.step(0), 0);
        Expect.fails("drop(0)", Expect.STATE, () -> x.drop(0));
        Expect.same("pass(1)", x.pass(1), 0);
    }

    private static void formerIsOut() {
        PaperKeeper x = readyOn(7);
        x.copy(0, 0);
        Expect.same("text(0) before", x.text(0), 10);
        x.pass(1);
        Expect.same("inForce(0)", x.inForce(0), 1);
        Expect.same("text(0)", x.text(0), 20);
        Expect.same("outOfDate(0)", x.outOfDate(0), 1);
    }

    private static void sameTextAgain() {
        PaperKeeper x = Keepers.inForce(1);
        Keepers.renew(x, 0, 10);
        Expect.same("inForce(0)", x.inForce(0), 1);
        Expect.same("text(0)", x.text(0), 10);
    }
}
