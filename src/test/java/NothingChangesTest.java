import java.util.function.Consumer;

/**
 * When a call throws, nothing has changed: each failing call is made on an object of its own, which then goes on as
 * one without that call.
 */
public final class NothingChangesTest {
    private static final String UNTOUCHED = goOn(Keepers.midway());

    public static void main(String[] args) {
        persons();
        drafts();
        reviews();
        approvals();
        days();
        fullObjects();
        Expect.close("NothingChangesTest");
    }

    /** What the object answers from here on; the calls reach all that it keeps. */
    private static String goOn(PaperKeeper x) {
        StringBuilder told = new StringBuilder();
        questions(x, told);
        told.append(x.hang(2, 1)).append(x.hang(0, 2)).append(x.hang(1, 3)).append(x.hang(3, 2));
        told.append(' ').append(x.answer(1, 1)).append(x.reviewer(1, 1)).append(x.reader(1, 5));
        told.append(x.review(1, 4, true)).append(x.review(1, 1, false)).append(x.answer(1, 2));
        x.approve(1, 5, 9);
        told.append(x.confirm(1, 5)).append(x.confirm(1, 3)).append(x.confirm(0, 4)).append(x.copy(0, 6));
        told.append(' ').append(x.pass(6)).append(x.pass(1));
        questions(x, told);
        told.append(x.change(makeDraft(x), 30)).append(x.setInterval(2)).append(x.pass(1)).append(x.takeDown(0));
        questions(x, told);
        for (int person = 0; person < 6; person++) {
            told.append(' ').append(x.setDeputy(person, -1));
            told.append(Expect.thrownBy(() -> x.reviewer(3, 5)));
        }
        return told.toString();
    }

    private static int makeDraft(PaperKeeper x) {
        x.draft(3, 0, 31);
        return 3;
    }

    private static void questions(PaperKeeper x, StringBuilder told) {
        told.append(" day ").append(x.day());
        for (int paper = 0; paper < 4; paper++) {
            told.append("; ").append(x.step(paper)).append(' ').append(x.waitsFor(paper));
            told.append(' ').append(x.inForce(paper)).append(' ').append(x.text(paper));
            told.append(' ').append(x.isDue(paper)).append(' ').append(x.outOfDate(paper));
            for (int day = 0; day <= x.day(); day++) {
                told.append(' ').append(x.inForceOn(paper, day));
            }
        }
    }

    private static void fails(String call, Class<?> due, Consumer<PaperKeeper> body) {
        PaperKeeper x = Keepers.midway();
        Expect.fails(call, due, () -> body.accept(x));
        Expect.same("what follows " + call, goOn(x), UNTOUCHED);
    }

    private static void persons() {
        fails("setRoles(6, true, true)", Expect.ARGUMENT, x -> x.setRoles(6, true, true));
        fails("setRoles(-1, true, true)", Expect.ARGUMENT, x -> x.setRoles(-1, true, true));
        fails("setDeputy(6, 0)", Expect.ARGUMENT, x -> x.setDeputy(6, 0));
        fails("setDeputy(2, 6)", Expect.ARGUMENT, x -> x.setDeputy(2, 6));
        fails("setDeputy(2, 2)", Expect.ARGUMENT, x -> x.setDeputy(2, 2));
        fails("setDeputy(2, -2)", Expect.ARGUMENT, x -> x.setDeputy(2, -2));
        fails("hang(3, 3)", Expect.ARGUMENT, x -> x.hang(3, 3));
        fails("hang(3, 4)", Expect.INDEX, x -> x.hang(3, 4));
        fails("hang(4, 3)", Expect.INDEX, x -> x.hang(4, 3));
        fails("setInterval(0)", Expect.ARGUMENT, x -> x.setInterval(0));
        fails("setInterval(101)", Expect.ARGUMENT, x -> x.setInterval(101));
    }

    private static void drafts() {
        fails("draft(4, 0, 1)", Expect.INDEX, x -> x.draft(4, 0, 1));
        fails("draft(3, 6, 1)", Expect.ARGUMENT, x -> x.draft(3, 6, 1));
        fails("draft(3, 0, 10000)", Expect.ARGUMENT, x -> x.draft(3, 0, 10000));
        fails("draft(0, 1, 1)", Expect.STATE, x -> x.draft(0, 1, 1));
        fails("draft(1, 1, 1)", Expect.STATE, x -> x.draft(1, 1, 1));
        fails("change(0, 10000)", Expect.ARGUMENT, x -> x.change(0, 10000));
        fails("change(0, 20), the same", Expect.STATE, x -> x.change(0, 20));
        fails("change(1, 11), the same", Expect.STATE, x -> x.change(1, 11));
        fails("change(2, 5)", Expect.STATE, x -> x.change(2, 5));
        fails("drop(2)", Expect.STATE, x -> x.drop(2));
        fails("drop(4)", Expect.INDEX, x -> x.drop(4));
    }

    private static void reviews() {
        fails("reviewer(0, 3), approved", Expect.STATE, x -> x.reviewer(0, 3));
        fails("reviewer(1, 0), the author", Expect.STATE, x -> x.reviewer(1, 0));
        fails("reviewer(1, 5), who may not", Expect.STATE, x -> x.reviewer(1, 5));
        fails("reviewer(1, 4), named", Expect.STATE, x -> x.reviewer(1, 4));
        fails("reviewer(3, 1), no draft", Expect.STATE, x -> x.reviewer(3, 1));
        fails("reader(0, 3), named", Expect.STATE, x -> x.reader(0, 3));
        fails("reader(1, 3), named", Expect.STATE, x -> x.reader(1, 3));
        fails("reader(1, 6)", Expect.ARGUMENT, x -> x.reader(1, 6));
        fails("review(1, 3, true), reviewed", Expect.STATE, x -> x.review(1, 3, true));
        fails("review(1, 1, true), no reviewer", Expect.STATE, x -> x.review(1, 1, true));
        fails("review(0, 1, true), behind the approval", Expect.STATE, x -> x.review(0, 1, true));
        fails("review(1, 6, true)", Expect.ARGUMENT, x -> x.review(1, 6, true));
        fails("answer(1, 0), answered", Expect.STATE, x -> x.answer(1, 0));
        fails("answer(1, 2), to come", Expect.INDEX, x -> x.answer(1, 2));
        fails("answer(1, -1)", Expect.INDEX, x -> x.answer(1, -1));
        fails("answer(3, 0), no draft", Expect.STATE, x -> x.answer(3, 0));
    }

    private static void approvals() {
        fails("approve(0, 2, 7), approved", Expect.STATE, x -> x.approve(0, 2, 7));
        fails("approve(1, 2, 9), in its round", Expect.STATE, x -> x.approve(1, 2, 9));
        fails("approve(1, 0, 9), the author", Expect.STATE, x -> x.approve(1, 0, 9));
        fails("approve(0, 2, 2), today", Expect.ARGUMENT, x -> x.approve(0, 2, 2));
        fails("approve(3, 2, 9), no draft", Expect.STATE, x -> x.approve(3, 2, 9));
        fails("confirm(0, 3), confirmed", Expect.STATE, x -> x.confirm(0, 3));
        fails("confirm(0, 5), no reader", Expect.STATE, x -> x.confirm(0, 5));
        fails("confirm(1, 3), not approved", Expect.STATE, x -> x.confirm(1, 3));
        fails("confirm(0, 6)", Expect.ARGUMENT, x -> x.confirm(0, 6));
    }

    private static void days() {
        fails("pass(0)", Expect.ARGUMENT, x -> x.pass(0));
        fails("pass(51)", Expect.ARGUMENT, x -> x.pass(51));
        fails("look(1)", Expect.STATE, x -> x.look(1));
        fails("look(4)", Expect.INDEX, x -> x.look(4));
        fails("copy(0, 10)", Expect.ARGUMENT, x -> x.copy(0, 10));
        fails("copy(3, 0)", Expect.STATE, x -> x.copy(3, 0));
        fails("takeDown(1), down", Expect.INDEX, x -> x.takeDown(1));
        fails("takeDown(2), to come", Expect.INDEX, x -> x.takeDown(2));
        fails("inForceOn(0, 3), to come", Expect.ARGUMENT, x -> x.inForceOn(0, 3));
        fails("since(0, 1), to come", Expect.INDEX, x -> x.since(0, 1));
    }

    private static void fullObjects() {
        PaperKeeper last = Keepers.approvedFor(1000);
        Keepers.passTo(last, 990);
        Expect.fails("pass(11) to day 1001", Expect.STATE, () -> last.pass(11));
        Expect.same("the day stays", last.day(), 990);
        Expect.same("nothing has come", last.inForce(0), -1);
        Expect.same("pass(10) to day 1000", last.pass(10), 1);
        PaperKeeper four = Keepers.withDraftIn(true, 1, 2, 3, 4);
        Expect.fails("a fifth reviewer", Expect.STATE, () -> four.reviewer(0, 5));
        Expect.fails("not the turn", Expect.STATE, () -> four.review(0, 2, true));
        for (int person = 1; person < 5; person++) {
            Expect.same("each in turn", four.review(0, person, false), -1);
        }
        Expect.same("the four are all", four.step(0), 3);
        PaperKeeper eight = Keepers.withPapers(false, false, false, false, false, false, false, true);
        Expect.fails("a ninth paper", Expect.STATE, () -> eight.open(false));
        Expect.fails("is not there", Expect.INDEX, () -> eight.step(8));
    }
}
