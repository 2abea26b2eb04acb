/** Promise 3: setDeputy. */
final class Promise03 {
    private static final String DEPUTY = "deputy: 0 to 5, another person, or -1 for none";
    private static final String OUT = "person or deputy is out of range";
    private static final String SAME = "both are the same";
    private static final String BEFORE = "Returns the deputy before, -1 if there was none";

    private Promise03() {
    }

    static void tests(Book book) {
        book.promise(3, "setDeputy");
        Edges.range(book, "person", "person: 0 to 5", OUT, 0, 5,
            PaperKeeper::new, (x, person) -> x.setDeputy(person, 3));
        Edges.range(book, "deputy", DEPUTY, OUT, -1, 5, Keepers::midway, (x, deputy) -> x.setDeputy(2, deputy));
        book.test(DEPUTY, "deputy 0 is the least of persons",
            () -> Expect.passes("setDeputy(2, 0)", () -> new PaperKeeper().setDeputy(2, 0)));
        book.refused(OUT, "person -1 without a deputy, both being -1", Expect.ARGUMENT, Keepers::midway,
            x -> x.setDeputy(-1, -1));
        book.refused(OUT, "person 6 without a deputy", Expect.ARGUMENT, Keepers::midway, x -> x.setDeputy(6, -1));
        book.refused(OUT, "both are 6", Expect.ARGUMENT, Keepers::midway, x -> x.setDeputy(6, 6));
        for (int person = 0; person < 6; person++) {
            int each = person;
            book.refused(SAME, "person " + each, Expect.ARGUMENT, Keepers::midway, x -> x.setDeputy(each, each));
        }
        book.test(BEFORE, "none at first", () -> Expect.same("setDeputy(0, 5)", new PaperKeeper().setDeputy(0, 5), -1));
        book.test(BEFORE, "the one before, 0 to 5", Promise03::oneBefore);
        book.test(BEFORE, "the same one again", Promise03::sameAgain);
        book.test(BEFORE, "none behind -1", Promise03::behindNone);
        book.test(BEFORE, "each person's own", Promise03::eachOnesOwn);
        book.test(BEFORE, "a call that is refused keeps the deputy", Promise03::keptByRefused);
        book.test("may have a deputy, another person", "two may be each other's", Promise03::eachOthers);
        book.test("may have a deputy, another person", "one may be the deputy of all others", Promise03::ofAllOthers);
        book.test("Sets the deputy of a person", "the one before is none any more", Promise03::noneAnyMore);
        book.test(DEPUTY, "behind -1 nobody acts for the person", Promise03::nobodyActs);
    }

    private static void oneBefore() {
        PaperKeeper x = new PaperKeeper();
        x.setDeputy(2, 0);
        Expect.same("setDeputy(2, 5)", x.setDeputy(2, 5), 0);
        Expect.same("setDeputy(2, 1)", x.setDeputy(2, 1), 5);
        Expect.same("setDeputy(2, -1)", x.setDeputy(2, -1), 1);
    }

    private static void sameAgain() {
        PaperKeeper x = new PaperKeeper();
        x.setDeputy(2, 4);
        Expect.same("setDeputy(2, 4)", x.setDeputy(2, 4), 4);
        Expect.same("setDeputy(2, 4) again", x.setDeputy(2, 4), 4);
    }

    private static void behindNone() {
        PaperKeeper x = new PaperKeeper();
        x.setDeputy(2, 4);
        x.setDeputy(2, -1);
        Expect.same("setDeputy(2, -1)", x.setDeputy(2, -1), -1);
        Expect.same("setDeputy(2, 3)", x.setDeputy(2, 3), -1);
    }

    private static void eachOnesOwn() {
        PaperKeeper x = new PaperKeeper();
        for (int person = 0; person < 6; person++) {
            Expect.same("first setDeputy of " + person, x.setDeputy(person, (person + 1) % 6), -1);
        }
        for (int person = 0; person < 6; person++) {
            Expect.same("next setDeputy of " + person, x.setDeputy(person, -1), (person + 1) % 6);
        }
    }

    private static void keptByRefused() {
        PaperKeeper x = new PaperKeeper();
        x.setDeputy(2, 4);
        Expect.fails("setDeputy(2, 6)", Expect.ARGUMENT, () -> x.setDeputy(2, 6));
        Expect.fails("setDeputy(2, 2)", Expect.ARGUMENT, () -> x.setDeputy(2, 2));
        Expect.fails("setDeputy(2, -2)", Expect.ARGUMENT, () -> x.setDeputy(2, -2));
        Expect.same("setDeputy(2, 3)", x.setDeputy(2, 3), 4);
    }

    private static void eachOthers() {
        PaperKeeper x = new PaperKeeper();
        x.setDeputy(1, 2);
        Expect.passes("setDeputy(2, 1)", () -> x.setDeputy(2, 1));
        Expect.same("setDeputy(1, -1)", x.setDeputy(1, -1), 2);
        Expect.same("setDeputy(2, -1)", x.setDeputy(2, -1), 1);
    }

    private static void ofAllOthers() {
        PaperKeeper x = new PaperKeeper();
        for (int person = 1; person < 6; person++) {
            x.setDeputy(person, 0);
        }
        for (int person = 1; person < 6; person++) {
            Expect.same("setDeputy(" + person + ", -1)", x.setDeputy(person, -1), 0);
        }
    }

    /** Behind its round; only person 2 may approve. */
    private static PaperKeeper onlyTwoApproves() {
        PaperKeeper x = Keepers.reviewed();
        for (int person = 0; person < 6; person++) {
            x.setRoles(person, true, person == 2);
        }
        return x;
    }

    private static void noneAnyMore() {
        PaperKeeper x = onlyTwoApproves();
        x.setDeputy(2, 3);
        x.setDeputy(2, 4);
        Expect.fails("approve(0, 3, 1)", Expect.STATE, () -> x.approve(0, 3, 1));
        Expect.passes("approve(0, 4, 1)", () -> x.approve(0, 4, 1));
    }

    private static void nobodyActs() {
        PaperKeeper x = onlyTwoApproves();
        x.setDeputy(2, 3);
        x.setDeputy(2, -1);
        Expect.fails("approve(0, 3, 1)", Expect.STATE, () -> x.approve(0, 3, 1));
        Expect.passes("approve(0, 2, 1)", () -> x.approve(0, 2, 1));
    }
}
