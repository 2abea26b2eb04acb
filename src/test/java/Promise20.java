/** Promise 20: takeDown. */
final class Promise20 {
    private static final String WALL = "Returns its wall";
    private static final String NONE = "no such copy hangs";
    private static final String UNTIL = "A copy hangs until it is taken down";

    private Promise20() {
    }

    static void tests(Book book) {
        book.promise(20, "takeDown");
        book.test(WALL, "0, the least", () -> wallOf(0));
        book.test(WALL, "9, the last", () -> wallOf(9));
        book.test(WALL, "each copy's own, of 30", Promise20::eachItsOwn);
        book.test(NONE, "the first of 30, 0, hangs", () -> Expect.same("the call", Keepers.copied(30).takeDown(0), 0));
        book.test(NONE, "the last of 30, 29, hangs", () -> Expect.same("the call", Keepers.copied(30).takeDown(29), 9));
        book.refused(NONE, "0, there being none", Expect.INDEX, () -> Keepers.inForce(1), x -> x.takeDown(0));
        book.refused(NONE, "0, there being no papers", Expect.INDEX, PaperKeeper::new, x -> x.takeDown(0));
        for (int wrong : new int[] {-1, 3, 29, 30, Integer.MIN_VALUE, Integer.MAX_VALUE}) {
            book.refused(NONE, wrong + " of 3", Expect.INDEX, () -> Keepers.copied(3), x -> x.takeDown(wrong));
        }
        for (int wrong : new int[] {-1, 30, 31}) {
            book.refused(NONE, wrong + " of 30", Expect.INDEX, () -> Keepers.copied(30), x -> x.takeDown(wrong));
        }
        book.refused(NONE, "one that is down", Expect.INDEX, Keepers::midway, x -> x.takeDown(1));
        book.refused(NONE, "the last of 30, being down", Expect.INDEX, () -> oneDown(30, 29), x -> x.takeDown(29));
        book.refused(NONE, "one on wall 0, being down", Expect.INDEX, () -> oneDown(3, 0), x -> x.takeDown(0));
        book.test(UNTIL, "also when it is out of date", Promise20::outOfDate);
        book.test(UNTIL, "also when many days go by", Promise20::manyDays);
        book.test("Takes a copy down", "the others hang", Promise20::othersHang);
    }

    private static PaperKeeper oneDown(int copies, int down) {
        PaperKeeper x = Keepers.copied(copies);
        x.takeDown(down);
        return x;
    }

    private static void wallOf(int wall) {
        PaperKeeper x = Keepers.inForce(1);
        x.copy(0, wall);
        Expect.same("takeDown(0)", x.takeDown(0), wall);
    }

    private static void eachItsOwn() {
        PaperKeeper x = Keepers.inForce(1);
        for (int copy = 0; copy < 30; copy++) {
            x.copy(0, copy * 7 % 10);
        }
        for (int copy = 29; copy >= 0; copy--) {
            Expect.same("takeDown(" + copy + ")", x.takeDown(copy), copy * 7 % 10);
        }
    }

    private static void outOfDate() {
        PaperKeeper x = Keepers.copied(2);
        Keepers.renew(x, 0, 20);
        Expect.same("takeDown(1)", x.takeDown(1), 1);
    }

    private static void manyDays() {
        PaperKeeper x = Keepers.onDay(Keepers.copied(2), 1000);
        Expect.same("takeDown(1)", x.takeDown(1), 1);
    }

    private static void othersHang() {
        PaperKeeper x = oneDown(3, 1);
        Expect.same("takeDown(0)", x.takeDown(0), 0);
        Expect.same("takeDown(2)", x.takeDown(2), 2);
    }
}
