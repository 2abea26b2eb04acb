/** Promise 1: A new object. */
final class Promise01 {
    private static final String NONE = "none at first";
    private static final String CALLS = "An object is used for at most 512 calls after it has been made";

    private Promise01() {
    }

    static void tests(Book book) {
        book.promise(1, "PaperKeeper");
        book.test("Begins on day 0", "today is 0",
            () -> Expect.same("day()", new PaperKeeper().day(), 0));
        book.test("without papers", "paper 0 is none for every call of a paper", Promise01::everyCallOfPaper0);
        book.test("without papers", "no version comes into force in 50 days",
            () -> Expect.same("pass(50)", new PaperKeeper().pass(50), 0));
        book.test("Papers are numbered from 0 as they are opened", "the first one to be opened is 0",
            () -> Expect.same("open(true)", new PaperKeeper().open(true), 0));
        book.test("Begins on day 0", "an object that was used does not show in a new one", Promise01::twoObjects);
        book.test(NONE, "nobody may review", Promise01::nobodyReviews);
        book.test(NONE, "nobody may approve", Promise01::nobodyApproves);
        book.test(NONE, "nobody has a deputy", Promise01::nobodyHasADeputy);
        book.test("30 at first", "the interval",
            () -> Expect.same("setInterval(1)", new PaperKeeper().setInterval(1), 30));
        book.test("they are numbered from 0 for all papers together, at most 30", "no copy hangs",
            () -> Expect.fails("takeDown(0)", Expect.INDEX, () -> new PaperKeeper().takeDown(0)));
        book.test(CALLS, "the 512th call is answered as the first", Promise01::lastCall);
        book.test(CALLS, "as many versions of one paper as they can make", Promise01::mostVersions);
        book.test(CALLS, "as many rounds of one draft as they can make", Promise01::mostRounds);
        book.test(CALLS, "calls that are refused use nothing up", Promise01::refusedCalls);
    }

    private static void everyCallOfPaper0() {
        PaperKeeper x = new PaperKeeper();
        Expect.fails("hang(0, 1)", Expect.INDEX, () -> x.hang(0, 1));
        Expect.fails("draft(0, 0, 0)", Expect.INDEX, () -> x.draft(0, 0, 0));
        Expect.fails("change(0, 0)", Expect.INDEX, () -> x.change(0, 0));
        Expect.fails("drop(0)", Expect.INDEX, () -> x.drop(0));
        Expect.fails("reviewer(0, 0)", Expect.INDEX, () -> x.reviewer(0, 0));
        Expect.fails("reader(0, 0)", Expect.INDEX, () -> x.reader(0, 0));
        Expect.fails("review(0, 0, true)", Expect.INDEX, () -> x.review(0, 0, true));
        Expect.fails("answer(0, 0)", Expect.INDEX, () -> x.answer(0, 0));
        Expect.fails("approve(0, 0, 1)", Expect.INDEX, () -> x.approve(0, 0, 1));
        Expect.fails("confirm(0, 0)", Expect.INDEX, () -> x.confirm(0, 0));
        Expect.fails("look(0)", Expect.INDEX, () -> x.look(0));
        Expect.fails("isDue(0)", Expect.INDEX, () -> x.isDue(0));
        Expect.fails("copy(0, 0)", Expect.INDEX, () -> x.copy(0, 0));
        Expect.fails("outOfDate(0)", Expect.INDEX, () -> x.outOfDate(0));
        Expect.fails("step(0)", Expect.INDEX, () -> x.step(0));
        Expect.fails("inForce(0)", Expect.INDEX, () -> x.inForce(0));
        Expect.fails("text(0)", Expect.INDEX, () -> x.text(0));
        Expect.fails("inForceOn(0, 0)", Expect.INDEX, () -> x.inForceOn(0, 0));
        Expect.fails("since(0, 0)", Expect.INDEX, () -> x.since(0, 0));
        Expect.fails("waitsFor(0)", Expect.INDEX, () -> x.waitsFor(0));
    }

    private static void twoObjects() {
        PaperKeeper used = Keepers.midway();
        used.setInterval(7);
        PaperKeeper x = new PaperKeeper();
        Expect.same("day()", x.day(), 0);
        Expect.fails("step(0)", Expect.INDEX, () -> x.step(0));
        Expect.same("setInterval(7)", x.setInterval(7), 30);
        Expect.same("setDeputy(2, 5)", x.setDeputy(2, 5), -1);
        x.open(true);
        x.draft(0, 0, 1);
        Expect.fails("reviewer(0, 1)", Expect.STATE, () -> x.reviewer(0, 1));
    }

    private static void nobodyReviews() {
        for (int person = 0; person < 6; person++) {
            int each = person;
            PaperKeeper x = new PaperKeeper();
            x.open(false);
            x.draft(0, (person + 1) % 6, 10);
            Expect.fails("reviewer(0, " + person + ")", Expect.STATE, () -> x.reviewer(0, each));
        }
    }

    private static void nobodyApproves() {
        for (int person = 0; person < 6; person++) {
            int each = person;
            int reviewer = (person + 1) % 6;
            PaperKeeper x = new PaperKeeper();
            x.open(false);
            x.setRoles(reviewer, true, false);
            x.draft(0, (person + 2) % 6, 10);
            x.reviewer(0, reviewer);
            x.review(0, reviewer, false);
            Expect.fails("approve(0, " + person + ", 1)", Expect.STATE, () -> x.approve(0, each, 1));
        }
    }

    private static void nobodyHasADeputy() {
        PaperKeeper x = new PaperKeeper();
        for (int person = 0; person < 6; person++) {
            Expect.same("setDeputy(" + person + ", -1)", x.setDeputy(person, -1), -1);
        }
    }

    private static void lastCall() {
        PaperKeeper x = Keepers.approved(1);
        int made = 6 + 1 + 6;
        while (made < 510) {
            x.day();
            made++;
        }
        Expect.same("call 511, confirm(0, 4)", x.confirm(0, 4), 0);
        Expect.same("call 512, pass(5)", x.pass(5), 1);
    }

    private static void mostVersions() {
        PaperKeeper x = new PaperKeeper();
        x.open(true);
        x.setRoles(1, true, true);
        int made = 0;
        for (int calls = 2; calls + 5 <= 510; calls += 5) {
            x.draft(0, 0, 9999 - made);
            x.reviewer(0, 1);
            x.review(0, 1, false);
            x.approve(0, 1, made + 1);
            Expect.same("pass(1)", x.pass(1), 1);
            made++;
        }
        Expect.same("inForce(0)", x.inForce(0), made - 1);
        Expect.same("text(0)", x.text(0), 9999 - made + 1);
        Expect.same("since(0, 0)", x.since(0, 0), 1);
        Expect.same("since(0, " + (made - 1) + ")", x.since(0, made - 1), made);
    }

    private static void mostRounds() {
        PaperKeeper x = new PaperKeeper();
        x.open(true);
        x.draft(0, 0, 0);
        for (int round = 2; round <= 511; round++) {
            Expect.same("change(0, " + round + ")", x.change(0, round), round);
        }
    }

    private static void refusedCalls() {
        PaperKeeper x = new PaperKeeper();
        for (int i = 0; i < 511; i++) {
            Expect.thrownBy(() -> x.step(0));
        }
        Expect.same("open(true)", x.open(true), 0);
    }
}
