/** Promise 5: hang. */
final class Promise05 {
    private static final String ON = "Returns on how many it hangs then";
    private static final String AGAIN = "nothing is added, if it does already";
    private static final String OTHER = "no such other one";
    private static final String SAME = "both are the same";

    private Promise05() {
    }

    static void tests(Book book) {
        book.promise(5, "hang");
        Edges.paper(book, new int[] {2, 8}, Keepers::papers, (x, paper) -> x.hang(paper, paper == 0 ? 1 : 0));
        book.test(ON, "the first one", () -> Expect.same("hang(0, 1)", Keepers.papers(2).hang(0, 1), 1));
        book.test(ON, "1 to 7, 7 being the most", Promise05::allOthers);
        book.test(AGAIN, "the only one", Promise05::onlyOneAgain);
        book.test(AGAIN, "all seven others", Promise05::allAgain);
        book.test("A paper can hang on other papers", "the other does not hang on it by that", Promise05::oneWay);
        book.test("A paper can hang on other papers", "both on each other", Promise05::bothWays);
        book.test(OTHER, "the first other, 0, is there",
            () -> Expect.same("hang(2, 0)", Keepers.papers(3).hang(2, 0), 1));
        book.test(OTHER, "the last other of 3, 2, is there",
            () -> Expect.same("hang(0, 2)", Keepers.papers(3).hang(0, 2), 1));
        book.test(OTHER, "the last other of 8, 7, is there",
            () -> Expect.same("hang(0, 7)", Keepers.papers(8).hang(0, 7), 1));
        for (int wrong : new int[] {-1, 3, 7, 8, Integer.MIN_VALUE, Integer.MAX_VALUE}) {
            book.refused(OTHER, "other " + wrong + " of 3 papers", Expect.INDEX,
                () -> Keepers.papers(3), x -> x.hang(0, wrong));
        }
        book.refused(OTHER, "other 8 of 8 papers", Expect.INDEX, () -> Keepers.papers(8), x -> x.hang(0, 8));
        for (int paper = 0; paper < 8; paper++) {
            int each = paper;
            book.refused(SAME, "paper " + paper, Expect.ARGUMENT, () -> Keepers.papers(8), x -> x.hang(each, each));
        }
        book.refused(Book.FIRST, "both are the same, and no such paper", Expect.INDEX,
            () -> Keepers.papers(3), x -> x.hang(3, 3));
        book.refused(Book.FIRST, "both are -1", Expect.INDEX, () -> Keepers.papers(3), x -> x.hang(-1, -1));
        book.refused(Book.FIRST, "both are 0 without papers", Expect.INDEX, PaperKeeper::new, x -> x.hang(0, 0));
        book.test("Lets a paper hang on another one", "the right one of 8, in each direction", Promise05::rightOnes);
    }

    private static void allOthers() {
        PaperKeeper x = Keepers.papers(8);
        for (int other = 0; other < 7; other++) {
            Expect.same("hang(7, " + other + ")", x.hang(7, other), other + 1);
        }
    }

    private static void onlyOneAgain() {
        PaperKeeper x = Keepers.papers(2);
        x.hang(0, 1);
        Expect.same("hang(0, 1) again", x.hang(0, 1), 1);
    }

    private static void allAgain() {
        PaperKeeper x = Keepers.papers(8);
        for (int other = 1; other < 8; other++) {
            x.hang(0, other);
        }
        for (int other = 1; other < 8; other++) {
            Expect.same("hang(0, " + other + ") again", x.hang(0, other), 7);
        }
    }

    private static void oneWay() {
        PaperKeeper x = Keepers.papers(3);
        x.hang(0, 1);
        Expect.same("hang(1, 2)", x.hang(1, 2), 1);
    }

    private static void bothWays() {
        PaperKeeper x = Keepers.papers(2);
        x.hang(0, 1);
        Expect.same("hang(1, 0)", x.hang(1, 0), 1);
        Expect.same("hang(0, 1) again", x.hang(0, 1), 1);
    }

    private static void rightOnes() {
        for (int paper = 0; paper < 8; paper++) {
            int on = (paper + 3) % 8;
            PaperKeeper x = Keepers.inForce(8);
            x.hang(paper, on);
            Keepers.renew(x, on, 50);
            for (int other = 0; other < 8; other++) {
                Expect.same("isDue(" + other + "), " + paper + " on " + on, x.isDue(other), other == paper);
            }
        }
    }
}
