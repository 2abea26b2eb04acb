/** Promise 2: setRoles. */
final class Promise02 {
    private static final String SETS = "Sets what a person may";
    private static final String REVIEWS = "reviews: whether the person may review";
    private static final String APPROVES = "approves: whether the person may approve";

    private Promise02() {
    }

    static void tests(Book book) {
        book.promise(2, "setRoles");
        Edges.range(book, "person", "person: 0 to 5", "person is out of range", 0, 5,
            () -> Keepers.midway(), (x, person) -> x.setRoles(person, false, false));
        book.refused("person is out of range", "-1 in a new object", Expect.ARGUMENT,
            PaperKeeper::new, x -> x.setRoles(-1, true, true));
        book.refused("person is out of range", "6 in a new object", Expect.ARGUMENT,
            PaperKeeper::new, x -> x.setRoles(6, true, true));
        for (int person : new int[] {0, 5}) {
            book.test(REVIEWS, "true for person " + person, () -> reviews(person, true, "nothing"));
            book.test(REVIEWS, "false for person " + person, () -> reviews(person, false, "IllegalStateException"));
            book.test(APPROVES, "true for person " + person, () -> approves(person, true, "nothing"));
            book.test(APPROVES, "false for person " + person, () -> approves(person, false, "IllegalStateException"));
        }
        book.test(SETS, "a role that is given and taken away", Promise02::takenAway);
        book.test(SETS, "a role that is taken away and given again", Promise02::givenAgain);
        book.test(SETS, "one person's roles are no other's", Promise02::noOthers);
        book.test("each may review, may approve", "one may both", Promise02::both);
        book.test("Persons are 0 to 5", "each of the six can be given each role", Promise02::eachOfSix);
    }

    /** The other role is the opposite, so that one is not taken for the other. */
    private static void reviews(int person, boolean may, String due) {
        PaperKeeper x = Keepers.papers(1);
        x.draft(0, 3, 10);
        x.setRoles(person, may, !may);
        Expect.same("reviewer(0, " + person + ")", Expect.thrownBy(() -> x.reviewer(0, person)), due);
    }

    private static void approves(int person, boolean may, String due) {
        PaperKeeper x = Keepers.papers(1);
        x.draft(0, 3, 10);
        x.reviewer(0, 1);
        x.review(0, 1, false);
        x.setRoles(person, !may, may);
        Expect.same("approve(0, " + person + ", 1)", Expect.thrownBy(() -> x.approve(0, person, 1)), due);
    }

    private static void takenAway() {
        PaperKeeper x = Keepers.reviewed();
        x.setRoles(2, true, true);
        x.setRoles(2, false, false);
        Expect.fails("reviewer(0, 2)", Expect.STATE, () -> x.reviewer(0, 2));
        Expect.fails("approve(0, 2, 1)", Expect.STATE, () -> x.approve(0, 2, 1));
    }

    private static void givenAgain() {
        PaperKeeper x = Keepers.reviewed();
        x.setRoles(2, false, false);
        x.setRoles(2, true, true);
        Expect.same("reviewer(0, 2)", x.reviewer(0, 2), 2);
        x.review(0, 2, false);
        Expect.passes("approve(0, 2, 1)", () -> x.approve(0, 2, 1));
    }

    private static void noOthers() {
        PaperKeeper x = Keepers.reviewed();
        x.setRoles(2, false, false);
        Expect.same("reviewer(0, 3)", x.reviewer(0, 3), 2);
        x.review(0, 3, false);
        Expect.passes("approve(0, 3, 1)", () -> x.approve(0, 3, 1));
    }

    private static void eachOfSix() {
        for (int person = 0; person < 6; person++) {
            int each = person;
            PaperKeeper x = new PaperKeeper();
            x.open(false);
            x.draft(0, (person + 1) % 6, 10);
            x.setRoles(person, true, true);
            Expect.same("reviewer(0, " + person + ")", x.reviewer(0, person), 1);
            x.review(0, person, false);
            Expect.passes("approve(0, " + person + ", 1)", () -> x.approve(0, each, 1));
        }
    }

    private static void both() {
        PaperKeeper x = new PaperKeeper();
        x.open(false);
        x.setRoles(1, true, true);
        x.draft(0, 0, 10);
        Expect.same("reviewer(0, 1)", x.reviewer(0, 1), 1);
        x.review(0, 1, false);
        Expect.passes("approve(0, 1, 1)", () -> x.approve(0, 1, 1));
    }
}
