/** Promises 22 to 28. */
public final class WhatIsTest {
    public static void main(String[] args) {
        promise22();
        promise23();
        promise24And25();
        promise26();
        promise27();
        promise28();
        manyVersions();
        Expect.close("WhatIsTest");
    }

    private static void promise22() {
        PaperKeeper x = new PaperKeeper();
        Expect.same("day at first", x.day(), 0);
        x.pass(3);
        x.pass(4);
        Expect.same("day behind 3 and 4", x.day(), 7);
        Expect.fails("pass(51)", Expect.ARGUMENT, () -> x.pass(51));
        Expect.same("a failing call leaves the day", x.day(), 7);
    }

    private static void promise23() {
        PaperKeeper x = Keepers.withPapers(false);
        for (int wrong : new int[] {-1, 1, 8, Integer.MIN_VALUE, Integer.MAX_VALUE}) {
            Expect.fails("step of no paper", Expect.INDEX, () -> x.step(wrong));
        }
        Expect.same("no draft", x.step(0), 0);
        x.draft(0, 0, 10);
        Expect.same("no reviewers", x.step(0), 1);
        x.reader(0, 4);
        Expect.same("a reader, and no reviewers", x.step(0), 1);
        x.reviewer(0, 1);
        x.reviewer(0, 2);
        x.review(0, 2, true);
        Expect.same("a remark, and one who has not reviewed", x.step(0), 1);
        x.review(0, 1, true);
        Expect.same("two remarks", x.step(0), 2);
        x.answer(0, 0);
        Expect.same("one remark", x.step(0), 2);
        x.answer(0, 1);
        Expect.same("behind the round", x.step(0), 3);
        x.reviewer(0, 3);
        Expect.same("one more reviewer", x.step(0), 1);
        x.review(0, 3, false);
        x.approve(0, 1, 2);
        Expect.same("a reader who has not confirmed", x.step(0), 4);
        x.confirm(0, 4);
        Expect.same("the day", x.step(0), 5);
        x.reader(0, 5);
        Expect.same("one more reader", x.step(0), 4);
        x.pass(5);
        Expect.same("the day gone by", x.step(0), 4);
        x.confirm(0, 5);
        Expect.same("confirmed", x.step(0), 5);
        x.change(0, 11);
        Expect.same("another text", x.step(0), 1);
        x.drop(0);
        Expect.same("dropped", x.step(0), 0);
        Keepers.renew(x, 0, 12);
        Expect.same("in force", x.step(0), 0);
    }

    private static void promise24And25() {
        PaperKeeper x = Keepers.withPapers(false, false);
        for (int wrong : new int[] {-1, 2, 8, Integer.MIN_VALUE, Integer.MAX_VALUE}) {
            Expect.fails("inForce of no paper", Expect.INDEX, () -> x.inForce(wrong));
            Expect.fails("text of no paper", Expect.INDEX, () -> x.text(wrong));
        }
        Expect.same("no version", x.inForce(0), -1);
        Expect.same("no text", x.text(0), -1);
        Keepers.approve(x, 0, 9999, 1);
        Expect.same("an approved draft is no version", x.inForce(0), -1);
        Expect.same("nor is its text", x.text(0), -1);
        x.pass(1);
        Expect.same("version 0", x.inForce(0), 0);
        Expect.same("its text", x.text(0), 9999);
        x.draft(0, 0, 3);
        Expect.same("a draft leaves the text", x.text(0), 9999);
        x.change(0, 4);
        Expect.same("a change leaves it too", x.text(0), 9999);
        x.drop(0);
        Keepers.renew(x, 0, 0);
        Expect.same("version 1", x.inForce(0), 1);
        Expect.same("its text is 0", x.text(0), 0);
        Expect.same("the other paper's version", x.inForce(1), -1);
        Expect.same("the other paper's text", x.text(1), -1);
        Keepers.renew(x, 1, 5);
        Expect.same("versions are numbered for each paper", x.inForce(1), 0);
        Expect.same("and texts are its own", x.text(1), 5);
        x.draft(0, 0, 6);
        x.change(0, 7);
        x.reviewer(0, 1);
        x.review(0, 1, false);
        x.approve(0, 2, x.day() + 1);
        x.pass(1);
        Expect.same("the changed text comes into force", x.text(0), 7);
    }

    private static void promise26() {
        PaperKeeper x = Keepers.withPapers(false, false);
        for (int wrong : new int[] {-1, 2, 8, Integer.MIN_VALUE, Integer.MAX_VALUE}) {
            Expect.fails("inForceOn of no paper", Expect.INDEX, () -> x.inForceOn(wrong, -1));
        }
        Expect.same("day 0", x.inForceOn(0, 0), -1);
        Expect.fails("day 1 is to come", Expect.ARGUMENT, () -> x.inForceOn(0, 1));
        Keepers.approve(x, 0, 10, 3);
        x.pass(4);
        Keepers.approve(x, 0, 11, 6);
        x.pass(3);
        int[] due = {-1, -1, -1, 0, 0, 0, 1, 1};
        for (int day = 0; day < due.length; day++) {
            Expect.same("inForceOn(0, " + day + ")", x.inForceOn(0, day), due[day]);
            Expect.same("inForceOn(1, " + day + ")", x.inForceOn(1, day), -1);
        }
        for (int wrong : new int[] {-1, 8, 1000, Integer.MIN_VALUE, Integer.MAX_VALUE}) {
            Expect.fails("a day out of range", Expect.ARGUMENT, () -> x.inForceOn(0, wrong));
        }
        x.open(false);
        Expect.same("a day before the paper was opened", x.inForceOn(2, 2), -1);
    }

    private static void promise27() {
        PaperKeeper x = Keepers.withPapers(false, false);
        for (int wrong : new int[] {-1, 2, 8, Integer.MIN_VALUE, Integer.MAX_VALUE}) {
            Expect.fails("since of no paper", Expect.INDEX, () -> x.since(wrong, 0));
        }
        Expect.fails("no version yet", Expect.INDEX, () -> x.since(0, 0));
        Keepers.approve(x, 0, 10, 3);
        Expect.fails("approved is no version", Expect.INDEX, () -> x.since(0, 0));
        x.pass(5);
        Keepers.approve(x, 0, 11, 10);
        x.reader(0, 5);
        x.pass(7);
        x.confirm(0, 5);
        x.pass(7);
        Expect.same("since(0, 0)", x.since(0, 0), 3);
        Expect.same("since(0, 1), which waited for a reader", x.since(0, 1), 13);
        for (int wrong : new int[] {-1, 2, 127, 128, Integer.MIN_VALUE, Integer.MAX_VALUE}) {
            Expect.fails("since of no version", Expect.INDEX, () -> x.since(0, wrong));
        }
        Expect.fails("the other paper has none", Expect.INDEX, () -> x.since(1, 0));
    }

    private static void promise28() {
        PaperKeeper x = Keepers.withPapers(false);
        for (int wrong : new int[] {-1, 1, 8, Integer.MIN_VALUE, Integer.MAX_VALUE}) {
            Expect.fails("waitsFor of no paper", Expect.INDEX, () -> x.waitsFor(wrong));
        }
        Expect.same("no draft", x.waitsFor(0), -1);
        x.draft(0, 5, 10);
        Expect.same("no reviewers", x.waitsFor(0), -1);
        for (int reviewer : new int[] {3, 1, 2, 0}) {
            x.reviewer(0, reviewer);
        }
        Expect.same("the first reviewer, not the lowest", x.waitsFor(0), 3);
        x.review(0, 1, true);
        Expect.same("still the first", x.waitsFor(0), 3);
        x.review(0, 3, true);
        Expect.same("the next who has not", x.waitsFor(0), 2);
        x.review(0, 2, false);
        Expect.same("person 0", x.waitsFor(0), 0);
        x.review(0, 0, false);
        Expect.same("the author", x.waitsFor(0), 5);
        x.answer(0, 0);
        Expect.same("still the author", x.waitsFor(0), 5);
        x.answer(0, 1);
        Expect.same("the approval waits for no person", x.waitsFor(0), -1);
        for (int reader : new int[] {4, 0, 2}) {
            x.reader(0, reader);
        }
        Expect.same("readers do not count before the approval", x.waitsFor(0), -1);
        x.approve(0, 1, 2);
        Expect.same("the lowest reader", x.waitsFor(0), 0);
        x.confirm(0, 2);
        Expect.same("still the lowest", x.waitsFor(0), 0);
        x.confirm(0, 0);
        Expect.same("the last reader", x.waitsFor(0), 4);
        x.confirm(0, 4);
        Expect.same("the day waits for no person", x.waitsFor(0), -1);
        x.change(0, 11);
        Expect.same("the first reviewer of the next round", x.waitsFor(0), 3);
        x.drop(0);
        Expect.same("dropped", x.waitsFor(0), -1);
    }

    /** As many versions of one paper as 512 calls can make. */
    private static void manyVersions() {
        PaperKeeper x = new PaperKeeper();
        x.open(true);
        x.setRoles(1, true, true);
        int made = 0;
        for (int calls = 2; calls + 5 <= 510; calls += 5) {
            x.draft(0, 0, made);
            x.reviewer(0, 1);
            x.review(0, 1, false);
            x.approve(0, 1, made + 1);
            Expect.same("each version comes", x.pass(1), 1);
            made++;
        }
        Expect.same("the last one", x.inForce(0), made - 1);
        Expect.same("its text", x.text(0), made - 1);
    }
}
