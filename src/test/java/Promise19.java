/** Promise 19: copy. */
final class Promise19 {
    private static final String NUMBER = "Returns its number";
    private static final String OUT = "wall is out of range";
    private static final String NO_VERSION = "the paper has no version in force";
    private static final String FULL = "there were 30 copies";
    private static final String NUMBERED = "they are numbered from 0 for all papers together, at most 30";
    private static final String WALLS = "Copies of the version in force can be hung on walls, 0 to 9";

    private Promise19() {
    }

    static void tests(Book book) {
        book.promise(19, "copy");
        Edges.paper(book, Keepers::inForce, (x, paper) -> x.copy(paper, 5));
        Edges.range(book, "wall", "wall: 0 to 9", OUT, 0, 9, Keepers::midway, (x, wall) -> x.copy(0, wall));
        book.test("Hangs a copy on a wall", "on wall 0", () -> onWall(0));
        book.test("Hangs a copy on a wall", "on wall 9", () -> onWall(9));
        book.test(WALLS, "several on one wall", Promise19::oneWall);
        book.test(WALLS, "of the version in force, not of the draft", Promise19::notOfDraft);
        book.test(NUMBER, "0, the first", () -> Expect.same("copy(0, 9)", Keepers.inForce(1).copy(0, 9), 0));
        book.test(NUMBERED, "0 to 29, the last there can be", Promise19::zeroToLast);
        book.test(NUMBERED, "of two papers in turn", Promise19::ofTwoPapers);
        book.test(NUMBERED, "a number is not used again", Promise19::notUsedAgain);
        book.test(NUMBERED, "a call that is refused uses none", Promise19::refusedUsesNone);
        noVersion(book);
        full(book);
        order(book);
    }

    private static void noVersion(Book book) {
        book.refused(NO_VERSION, "a new paper", Expect.STATE, () -> Keepers.papers(1), x -> x.copy(0, 0));
        book.refused(NO_VERSION, "a draft in its round", Expect.STATE, Keepers::midway, x -> x.copy(1, 0));
        book.refused(NO_VERSION, "an approved one", Expect.STATE, () -> Keepers.approvedFor(1), x -> x.copy(0, 0));
        book.refused(NO_VERSION, "another paper has one", Expect.STATE, Keepers::midway, x -> x.copy(3, 0));
        book.test(NO_VERSION, "it has since today: allowed", Promise19::sinceToday);
    }

    private static void full(Book book) {
        book.test(FULL, "with 29 one more is hung", () -> Expect.same("copy(0, 0)", Keepers.copied(29).copy(0, 0), 29));
        book.refused(FULL, "a 31st", Expect.STATE, () -> Keepers.copied(30), x -> x.copy(0, 0));
        book.refused(FULL, "a 31st, the last one being down", Expect.STATE,
            () -> takenDown(29, 29), x -> x.copy(0, 9));
        book.refused(FULL, "a 31st, all being down", Expect.STATE, () -> takenDown(0, 29), x -> x.copy(0, 9));
        book.refused(FULL, "a 31st, of another paper", Expect.STATE, Promise19::fullWithOther, x -> x.copy(1, 9));
    }

    private static void order(Book book) {
        book.refused(Book.FIRST, "no such paper, and wall 10", Expect.INDEX,
            () -> Keepers.inForce(1), x -> x.copy(1, 10));
        book.refused(Book.FIRST, "no such paper, and there were 30", Expect.INDEX,
            () -> Keepers.copied(30), x -> x.copy(1, 0));
        book.refused(Book.FIRST, "no such paper, wall -1, and there were 30", Expect.INDEX,
            () -> Keepers.copied(30), x -> x.copy(-1, -1));
        book.refused(Book.FIRST, "wall 10, and no version", Expect.ARGUMENT,
            () -> Keepers.papers(1), x -> x.copy(0, 10));
        book.refused(Book.FIRST, "wall -1, and there were 30", Expect.ARGUMENT,
            () -> Keepers.copied(30), x -> x.copy(0, -1));
    }

    private static void onWall(int wall) {
        PaperKeeper x = Keepers.inForce(1);
        x.copy(0, wall);
        Expect.same("takeDown(0)", x.takeDown(0), wall);
    }

    private static void oneWall() {
        PaperKeeper x = Keepers.inForce(1);
        for (int number = 0; number < 30; number++) {
            Expect.same("copy(0, 4)", x.copy(0, 4), number);
        }
    }

    private static void notOfDraft() {
        PaperKeeper x = Keepers.inForce(1);
        Keepers.approve(x, 0, 20, 2);
        x.copy(0, 4);
        Expect.same("outOfDate(0)", x.outOfDate(0), 0);
        x.pass(1);
        Expect.same("outOfDate(0), the draft being in force", x.outOfDate(0), 1);
        x.copy(0, 4);
        Expect.same("outOfDate(0), with a new copy", x.outOfDate(0), 1);
    }

    private static void zeroToLast() {
        PaperKeeper x = Keepers.inForce(1);
        for (int number = 0; number < 30; number++) {
            Expect.same("copy", x.copy(0, number % 10), number);
        }
        Expect.fails("one more", Expect.STATE, () -> x.copy(0, 0));
    }

    private static void ofTwoPapers() {
        PaperKeeper x = Keepers.inForce(2);
        Expect.same("copy(1, 3)", x.copy(1, 3), 0);
        Expect.same("copy(0, 3)", x.copy(0, 3), 1);
        Expect.same("copy(1, 3)", x.copy(1, 3), 2);
    }

    private static void notUsedAgain() {
        PaperKeeper x = Keepers.copied(3);
        x.takeDown(2);
        x.takeDown(0);
        Expect.same("copy(0, 3)", x.copy(0, 3), 3);
        Expect.fails("takeDown(0)", Expect.INDEX, () -> x.takeDown(0));
    }

    private static void refusedUsesNone() {
        PaperKeeper x = Keepers.inForce(1);
        x.open(false);
        Expect.fails("copy(0, 10)", Expect.ARGUMENT, () -> x.copy(0, 10));
        Expect.fails("copy(1, 0)", Expect.STATE, () -> x.copy(1, 0));
        Expect.same("copy(0, 3)", x.copy(0, 3), 0);
    }

    private static void sinceToday() {
        PaperKeeper x = Keepers.approvedFor(1);
        x.pass(1);
        Expect.same("copy(0, 0)", x.copy(0, 0), 0);
    }

    private static PaperKeeper takenDown(int from, int to) {
        PaperKeeper x = Keepers.copied(30);
        for (int copy = from; copy <= to; copy++) {
            x.takeDown(copy);
        }
        return x;
    }

    private static PaperKeeper fullWithOther() {
        PaperKeeper x = Keepers.inForce(2);
        for (int copy = 0; copy < 30; copy++) {
            x.copy(0, 0);
        }
        return x;
    }
}
