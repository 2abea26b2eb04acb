/** Promises 1 to 6. */
public final class PersonsAndPapersTest {
    public static void main(String[] args) {
        promise1();
        promise2();
        promise3();
        promise4();
        promise5();
        promise6();
        Expect.close("PersonsAndPapersTest");
    }

    private static void promise1() {
        PaperKeeper x = new PaperKeeper();
        Expect.same("day() of a new object", x.day(), 0);
        Expect.fails("step(0) of a new object", Expect.INDEX, () -> x.step(0));
        Expect.same("the first open", x.open(true), 0);
        Expect.same("the interval of a new object", x.setInterval(5), 30);
        x.draft(0, 0, 1);
        for (int person = 0; person < 6; person++) {
            int each = person;
            Expect.fails("nobody may review at first", Expect.STATE, () -> x.reviewer(0, each));
            Expect.same("nobody has a deputy at first", x.setDeputy(person, -1), -1);
        }
        x.setRoles(1, true, false);
        x.reviewer(0, 1);
        x.review(0, 1, false);
        for (int person = 0; person < 6; person++) {
            int each = person;
            Expect.fails("nobody may approve at first", Expect.STATE, () -> x.approve(0, each, 1));
        }
        PaperKeeper other = new PaperKeeper();
        Expect.fails("objects share nothing", Expect.INDEX, () -> other.step(0));
    }

    private static void promise2() {
        PaperKeeper x = new PaperKeeper();
        for (int wrong : new int[] {-1, 6}) {
            Expect.fails("setRoles of a person out of range", Expect.ARGUMENT, () -> x.setRoles(wrong, true, true));
        }
        for (int wrong : Keepers.WILD) {
            Expect.fails("setRoles of a wild person", Expect.ARGUMENT, () -> x.setRoles(wrong, true, true));
        }
        x.open(false);
        x.draft(0, 2, 1);
        x.setRoles(0, true, false);
        x.setRoles(5, false, true);
        Expect.fails("who approves alone does not review", Expect.STATE, () -> x.reviewer(0, 5));
        Expect.same("person 0 may review", x.reviewer(0, 0), 1);
        x.review(0, 0, false);
        Expect.fails("who reviews alone does not approve", Expect.STATE, () -> x.approve(0, 0, 1));
        x.setRoles(5, true, false);
        Expect.fails("roles are set anew", Expect.STATE, () -> x.approve(0, 5, 1));
        x.setRoles(5, false, true);
        x.approve(0, 5, 1);
        Expect.same("person 5 may approve", x.step(0), 5);
    }

    private static void promise3() {
        PaperKeeper x = new PaperKeeper();
        Expect.same("setDeputy(0, 5)", x.setDeputy(0, 5), -1);
        Expect.same("setDeputy(5, 0)", x.setDeputy(5, 0), -1);
        Expect.same("setDeputy(0, 1)", x.setDeputy(0, 1), 5);
        Expect.same("setDeputy(0, -1)", x.setDeputy(0, -1), 1);
        Expect.same("setDeputy(0, 2) behind none", x.setDeputy(0, 2), -1);
        Expect.fails("setDeputy(-1, 0)", Expect.ARGUMENT, () -> x.setDeputy(-1, 0));
        Expect.fails("setDeputy(-1, -1)", Expect.ARGUMENT, () -> x.setDeputy(-1, -1));
        Expect.fails("setDeputy(6, 0)", Expect.ARGUMENT, () -> x.setDeputy(6, 0));
        Expect.fails("setDeputy(0, 6)", Expect.ARGUMENT, () -> x.setDeputy(0, 6));
        Expect.fails("setDeputy(0, -2)", Expect.ARGUMENT, () -> x.setDeputy(0, -2));
        for (int wrong : Keepers.WILD) {
            Expect.fails("setDeputy of a wild person", Expect.ARGUMENT, () -> x.setDeputy(wrong, 0));
            Expect.fails("setDeputy of a wild deputy", Expect.ARGUMENT, () -> x.setDeputy(0, wrong));
        }
        for (int person = 0; person < 6; person++) {
            int each = person;
            Expect.fails("setDeputy of the same", Expect.ARGUMENT, () -> x.setDeputy(each, each));
        }
        Expect.same("failing calls keep the deputy", x.setDeputy(0, 3), 2);
        Expect.same("deputies are each person's own", x.setDeputy(5, 1), 0);
    }

    private static void promise4() {
        PaperKeeper x = new PaperKeeper();
        for (int number = 0; number < 8; number++) {
            int next = number;
            Expect.fails("step of a paper to come", Expect.INDEX, () -> x.step(next));
            Expect.same("open", x.open(number % 2 == 0), number);
            Expect.same("a new paper has no draft", x.step(number), 0);
            Expect.same("a new paper has no version", x.inForce(number), -1);
        }
        Expect.fails("open of a ninth, in order", Expect.STATE, () -> x.open(true));
        Expect.fails("open of a ninth, side by side", Expect.STATE, () -> x.open(false));
        Expect.fails("step(8)", Expect.INDEX, () -> x.step(8));
        Expect.same("a paper in order keeps to the order", reviewOfSecond(true), "IllegalStateException");
        Expect.same("a paper side by side does not", reviewOfSecond(false), "nothing");
    }

    private static String reviewOfSecond(boolean inOrder) {
        PaperKeeper x = Keepers.withDraftIn(inOrder, 1, 2);
        return Expect.thrownBy(() -> x.review(0, 2, false));
    }

    private static void promise5() {
        PaperKeeper x = Keepers.withPapers(false, false, false, false, false, false, false, false);
        for (int other = 0; other < 7; other++) {
            Expect.same("hang(7, " + other + ")", x.hang(7, other), other + 1);
            Expect.same("hang(7, " + other + ") again", x.hang(7, other), other + 1);
        }
        Expect.same("hang(0, 7), the other way", x.hang(0, 7), 1);
        Expect.fails("hang(3, 3)", Expect.ARGUMENT, () -> x.hang(3, 3));
        Expect.fails("hang(8, 8)", Expect.INDEX, () -> x.hang(8, 8));
        Expect.fails("hang(-1, -1)", Expect.INDEX, () -> x.hang(-1, -1));
        Expect.fails("hang(0, 8)", Expect.INDEX, () -> x.hang(0, 8));
        Expect.fails("hang(0, -1)", Expect.INDEX, () -> x.hang(0, -1));
        Expect.fails("hang(8, 0)", Expect.INDEX, () -> x.hang(8, 0));
        for (int wrong : Keepers.WILD) {
            Expect.fails("hang of a wild paper", Expect.INDEX, () -> x.hang(wrong, 0));
            Expect.fails("hang on a wild paper", Expect.INDEX, () -> x.hang(0, wrong));
        }
        Expect.same("failing calls add nothing", x.hang(3, 0), 1);
        PaperKeeper few = Keepers.withPapers(false, false);
        Expect.fails("hang on a paper that is not open", Expect.INDEX, () -> few.hang(0, 2));
        Expect.fails("hang of a paper that is not open", Expect.INDEX, () -> few.hang(2, 0));
    }

    private static void promise6() {
        PaperKeeper x = Keepers.withPapers(false);
        Expect.same("setInterval(1)", x.setInterval(1), 30);
        Expect.same("setInterval(100)", x.setInterval(100), 1);
        Expect.fails("setInterval(0)", Expect.ARGUMENT, () -> x.setInterval(0));
        Expect.fails("setInterval(101)", Expect.ARGUMENT, () -> x.setInterval(101));
        Expect.fails("setInterval(-1)", Expect.ARGUMENT, () -> x.setInterval(-1));
        for (int wrong : Keepers.WILD) {
            Expect.fails("setInterval of wild days", Expect.ARGUMENT, () -> x.setInterval(wrong));
        }
        Expect.same("failing calls keep the interval", x.setInterval(7), 100);
        Keepers.renew(x, 0, 1);
        x.pass(6);
        Expect.same("6 days of 7", x.isDue(0), false);
        x.setInterval(6);
        Expect.same("6 days of 6", x.isDue(0), true);
        x.setInterval(7);
        Expect.same("6 days of 7 again", x.isDue(0), false);
    }
}
