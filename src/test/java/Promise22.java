/** Promise 22: day. */
final class Promise22 {
    private static final String TODAY = "Returns today";

    private Promise22() {
    }

    static void tests(Book book) {
        book.promise(22, "day");
        book.test("Days are numbered from 0", "0, the first", () -> Expect.same("day()", new PaperKeeper().day(), 0));
        book.test(TODAY, "1", () -> Expect.same("day()", Keepers.onDay(new PaperKeeper(), 1).day(), 1));
        book.test(TODAY, "1000, the last",
            () -> Expect.same("day()", Keepers.onDay(new PaperKeeper(), 1000).day(), 1000));
        book.test(TODAY, "all days that went by, in several calls", Promise22::severalCalls);
        book.test(TODAY, "days that were refused did not go by", Promise22::refused);
        book.test(TODAY, "asking lets no day go by", Promise22::asking);
    }

    private static void severalCalls() {
        PaperKeeper x = new PaperKeeper();
        x.pass(50);
        x.pass(1);
        x.pass(7);
        Expect.same("day()", x.day(), 58);
    }

    private static void refused() {
        PaperKeeper x = Keepers.onDay(new PaperKeeper(), 999);
        Expect.fails("pass(0)", Expect.ARGUMENT, () -> x.pass(0));
        Expect.fails("pass(51)", Expect.ARGUMENT, () -> x.pass(51));
        Expect.fails("pass(2)", Expect.STATE, () -> x.pass(2));
        Expect.same("day()", x.day(), 999);
    }

    private static void asking() {
        PaperKeeper x = Keepers.midway();
        Expect.same("day()", x.day(), 2);
        Expect.same("day() again", x.day(), 2);
    }
}
