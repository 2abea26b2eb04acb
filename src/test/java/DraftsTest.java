/** Promises 7 to 15. */
public final class DraftsTest {
    public static void main(String[] args) {
        promise7();
        promise8();
        promise8BeginsAnew();
        forEachPerson();
        promise9();
        promise10();
        promise11();
        promise12();
        promise12InOrder();
        promise13();
        promise14();
        promise14Persons();
        promise14Deputies();
        promise15();
        Expect.close("DraftsTest");
    }

    private static void promise7() {
        PaperKeeper x = Keepers.withPapers(false, true);
        for (int wrong : new int[] {-1, 6, Integer.MIN_VALUE, Integer.MAX_VALUE}) {
            Expect.fails("draft of an author out of range", Expect.ARGUMENT, () -> x.draft(0, wrong, 0));
        }
        for (int wrong : new int[] {-1, 10000, Integer.MIN_VALUE, Integer.MAX_VALUE}) {
            Expect.fails("draft of a text out of range", Expect.ARGUMENT, () -> x.draft(0, 0, wrong));
        }
        for (int wrong : new int[] {-1, 2, 8, Integer.MIN_VALUE, Integer.MAX_VALUE}) {
            Expect.fails("draft of no paper", Expect.INDEX, () -> x.draft(wrong, 9, -1));
        }
        x.draft(0, 0, 0);
        Expect.same("step of a new draft", x.step(0), 1);
        Expect.same("a draft is its paper's own", x.step(1), 0);
        x.draft(1, 5, 9999);
        Expect.fails("a second draft", Expect.STATE, () -> x.draft(0, 1, 1));
        Expect.fails("a second draft of a wrong author", Expect.ARGUMENT, () -> x.draft(0, 6, 1));
        Expect.fails("a second draft of a wrong text", Expect.ARGUMENT, () -> x.draft(0, 1, 10000));
        Expect.same("the text of the first draft", x.drop(0), 0);
        Expect.same("the text of the other draft", x.drop(1), 9999);
        PaperKeeper nobody = new PaperKeeper();
        nobody.open(false);
        nobody.draft(0, 3, 4);
        Expect.same("an author needs no role", nobody.drop(0), 4);
        beginsAfresh();
    }

    private static void beginsAfresh() {
        PaperKeeper x = Keepers.withDraft(1, 2);
        x.reader(0, 3);
        x.review(0, 1, true);
        x.change(0, 11);
        x.drop(0);
        x.draft(0, 1, 10);
        Expect.same("a new draft has no reviewers", x.step(0), 1);
        Expect.same("a new draft waits for nobody", x.waitsFor(0), -1);
        Expect.same("its first reviewer", x.reviewer(0, 0), 1);
        Expect.same("its first reader", x.reader(0, 3), 1);
        Expect.fails("it has no remark", Expect.INDEX, () -> x.answer(0, 0));
        Expect.same("it begins with round 1", x.change(0, 12), 2);
    }

    private static void promise8() {
        PaperKeeper x = Keepers.withPapers(false);
        Expect.fails("change without a draft", Expect.STATE, () -> x.change(0, 1));
        Expect.fails("change to a wrong text without a draft", Expect.ARGUMENT, () -> x.change(0, 10000));
        Expect.fails("change of no paper", Expect.INDEX, () -> x.change(1, -1));
        Expect.fails("change of paper -1", Expect.INDEX, () -> x.change(-1, 1));
        x.draft(0, 0, 10);
        for (int wrong : new int[] {-1, 10000, Integer.MIN_VALUE, Integer.MAX_VALUE}) {
            Expect.fails("change to a text out of range", Expect.ARGUMENT, () -> x.change(0, wrong));
        }
        Expect.fails("change to the text that it has", Expect.STATE, () -> x.change(0, 10));
        Expect.same("the second round", x.change(0, 9999), 2);
        Expect.same("the third round, with the first text", x.change(0, 10), 3);
        Expect.same("the fourth round", x.change(0, 0), 4);
        Expect.same("the text changed", x.drop(0), 0);
        Keepers.renew(x, 0, 20);
        x.draft(0, 0, 21);
        Expect.same("change to the text in force", x.change(0, 20), 2);
    }

    private static void promise8BeginsAnew() {
        PaperKeeper x = Keepers.withDraft(2, 1);
        x.review(0, 2, true);
        x.review(0, 1, true);
        x.answer(0, 1);
        x.answer(0, 0);
        x.change(0, 11);
        Expect.same("a round begins without reviews", x.waitsFor(0), 2);
        Expect.fails("and without remarks", Expect.INDEX, () -> x.answer(0, 0));
        Expect.same("remarks are numbered from 0 in each round", x.review(0, 1, true), 0);
        Expect.same("a remark before it was answered leaves it open", x.review(0, 2, true), 1);
        Expect.same("they are open: 1", x.answer(0, 1), 1);
        Expect.same("they are open: 0", x.answer(0, 0), 0);
        Expect.same("reviewers stay", x.reviewer(0, 3), 3);
        PaperKeeper y = Keepers.approvedFor(1, 4, 5);
        y.confirm(0, 4);
        y.change(0, 11);
        Expect.same("a round begins without approval", y.pass(2), 0);
        y.review(0, 1, false);
        Expect.same("it has to be approved again", y.step(0), 3);
        y.approve(0, 2, 3);
        Expect.same("readers stay and have not confirmed", y.waitsFor(0), 4);
        Expect.same("the first one confirms again", y.confirm(0, 4), 1);
        Expect.same("the author stays", Expect.thrownBy(() -> y.reader(0, 0)), "nothing");
        y.change(0, 12);
        Expect.fails("the author stays", Expect.STATE, () -> y.reviewer(0, 0));
    }

    /** What begins anew does so for the first person and for the last. */
    private static void forEachPerson() {
        for (int person = 0; person < 6; person++) {
            int each = person;
            int author = (person + 1) % 6;
            PaperKeeper x = Keepers.withPapers(false);
            x.draft(0, author, 10);
            x.reviewer(0, person);
            x.reader(0, person);
            x.review(0, person, false);
            x.approve(0, person, 1);
            x.confirm(0, person);
            x.change(0, 11);
            Expect.same("the reviewer reviews anew", x.waitsFor(0), person);
            x.review(0, person, false);
            x.approve(0, person, 1);
            Expect.same("the reader confirms anew", x.waitsFor(0), person);
            x.confirm(0, person);
            x.drop(0);
            x.draft(0, person, 12);
            x.reviewer(0, author);
            Expect.same("the reader is named anew", x.reader(0, person), 1);
            x.review(0, author, false);
            Expect.fails("the author does not approve", Expect.STATE, () -> x.approve(0, each, 1));
            x.approve(0, author, 1);
            Expect.same("the reader of a new draft confirms", x.confirm(0, person), 0);
        }
    }

    private static void promise9() {
        PaperKeeper x = Keepers.withPapers(false, false);
        Expect.fails("drop without a draft", Expect.STATE, () -> x.drop(0));
        Expect.fails("drop of no paper", Expect.INDEX, () -> x.drop(2));
        Expect.fails("drop of paper -1", Expect.INDEX, () -> x.drop(-1));
        x.draft(0, 0, 10);
        x.draft(1, 0, 11);
        Expect.same("drop", x.drop(0), 10);
        Expect.fails("drop again", Expect.STATE, () -> x.drop(0));
        Expect.same("the other draft stays", x.drop(1), 11);
        PaperKeeper y = Keepers.approvedFor(1);
        y.drop(0);
        Expect.same("a dropped draft does not come into force", y.pass(2), 0);
        Keepers.renew(y, 0, 30);
        Expect.fails("drop of a text in force", Expect.STATE, () -> y.drop(0));
        y.draft(0, 0, 31);
        y.drop(0);
        Expect.same("dropping leaves what is in force", y.text(0), 30);
    }

    private static void promise10() {
        PaperKeeper x = Keepers.withPapers(false);
        Expect.fails("reviewer without a draft", Expect.STATE, () -> x.reviewer(0, 1));
        Expect.fails("reviewer 6 without a draft", Expect.ARGUMENT, () -> x.reviewer(0, 6));
        x.draft(0, 0, 10);
        Expect.fails("reviewer of no paper", Expect.INDEX, () -> x.reviewer(1, 6));
        Expect.fails("reviewer of paper -1", Expect.INDEX, () -> x.reviewer(-1, 1));
        for (int wrong : new int[] {-1, 6, Integer.MIN_VALUE, Integer.MAX_VALUE}) {
            Expect.fails("reviewer out of range", Expect.ARGUMENT, () -> x.reviewer(0, wrong));
        }
        Expect.fails("the author as a reviewer", Expect.STATE, () -> x.reviewer(0, 0));
        x.setRoles(3, false, true);
        Expect.fails("a reviewer who may not", Expect.STATE, () -> x.reviewer(0, 3));
        Expect.same("the first reviewer", x.reviewer(0, 1), 1);
        Expect.fails("a reviewer who is named", Expect.STATE, () -> x.reviewer(0, 1));
        Expect.same("a reader is no reviewer", x.reader(0, 5), 1);
        Expect.same("the second reviewer", x.reviewer(0, 5), 2);
        x.setRoles(3, true, false);
        Expect.same("the third reviewer", x.reviewer(0, 3), 3);
        Expect.same("the fourth reviewer", x.reviewer(0, 4), 4);
        Expect.fails("a fifth reviewer", Expect.STATE, () -> x.reviewer(0, 2));
        x.setRoles(4, false, false);
        Expect.same("a reviewer stays one", x.review(0, 4, false), -1);
        deputiesDoNotReview();
        untilApproved();
    }

    private static void deputiesDoNotReview() {
        PaperKeeper x = new PaperKeeper();
        x.open(false);
        x.setRoles(1, true, true);
        x.setDeputy(1, 2);
        x.draft(0, 0, 1);
        Expect.fails("a deputy of a reviewer", Expect.STATE, () -> x.reviewer(0, 2));
    }

    private static void untilApproved() {
        PaperKeeper x = Keepers.reviewed();
        Expect.same("a reviewer behind the round", x.reviewer(0, 3), 2);
        Expect.same("the round goes on", x.step(0), 1);
        x.review(0, 3, false);
        x.approve(0, 2, 1);
        Expect.fails("a reviewer behind the approval", Expect.STATE, () -> x.reviewer(0, 4));
        x.change(0, 11);
        Expect.same("a reviewer in the next round", x.reviewer(0, 4), 3);
    }

    private static void promise11() {
        PaperKeeper x = Keepers.withPapers(false);
        Expect.fails("reader without a draft", Expect.STATE, () -> x.reader(0, 1));
        Expect.fails("reader 6 without a draft", Expect.ARGUMENT, () -> x.reader(0, 6));
        x.draft(0, 0, 10);
        Expect.fails("reader of no paper", Expect.INDEX, () -> x.reader(1, 6));
        Expect.fails("reader of paper -1", Expect.INDEX, () -> x.reader(-1, 1));
        for (int wrong : new int[] {-1, 6, Integer.MIN_VALUE, Integer.MAX_VALUE}) {
            Expect.fails("reader out of range", Expect.ARGUMENT, () -> x.reader(0, wrong));
        }
        x.reviewer(0, 5);
        int[] order = {5, 0, 3, 1, 2, 4};
        for (int i = 0; i < order.length; i++) {
            int person = order[i];
            x.setRoles(person, false, false);
            Expect.same("reader " + person, x.reader(0, person), i + 1);
            Expect.fails("a reader who is named", Expect.STATE, () -> x.reader(0, person));
        }
        PaperKeeper y = Keepers.approvedFor(2, 4);
        y.confirm(0, 4);
        Expect.same("a reader behind the approval", y.reader(0, 3), 2);
        Expect.same("and it waits for the reader", y.waitsFor(0), 3);
        Expect.same("until the reader has confirmed", y.pass(5), 0);
        Expect.same("a reader behind the day", y.reader(0, 5), 3);
        Expect.same("confirm", y.confirm(0, 3), 1);
        Expect.same("confirm of the last", y.confirm(0, 5), 0);
        Expect.same("then it comes", y.pass(1), 1);
        Expect.fails("a reader of what is in force", Expect.STATE, () -> y.reader(0, 2));
    }

    private static void promise12() {
        PaperKeeper x = Keepers.withPapers(false);
        Expect.fails("review without a draft", Expect.STATE, () -> x.review(0, 1, true));
        Expect.fails("review of 6 without a draft", Expect.ARGUMENT, () -> x.review(0, 6, true));
        x.draft(0, 0, 10);
        Expect.fails("review of no paper", Expect.INDEX, () -> x.review(1, 6, true));
        Expect.fails("review of paper -1", Expect.INDEX, () -> x.review(-1, 1, true));
        for (int wrong : new int[] {-1, 6, Integer.MIN_VALUE, Integer.MAX_VALUE}) {
            Expect.fails("review of a person out of range", Expect.ARGUMENT, () -> x.review(0, wrong, true));
        }
        for (int reviewer : new int[] {4, 2, 1, 3}) {
            x.reviewer(0, reviewer);
        }
        Expect.fails("review of no reviewer", Expect.STATE, () -> x.review(0, 5, false));
        Expect.fails("review of the author", Expect.STATE, () -> x.review(0, 0, false));
        Expect.same("a review with a remark", x.review(0, 3, true), 0);
        Expect.same("a review without one", x.review(0, 1, false), -1);
        Expect.fails("a second review", Expect.STATE, () -> x.review(0, 3, false));
        Expect.fails("a second review behind none", Expect.STATE, () -> x.review(0, 1, true));
        Expect.same("a second remark", x.review(0, 4, true), 1);
        x.answer(0, 0);
        x.answer(0, 1);
        Expect.same("a third remark", x.review(0, 2, true), 2);
        Expect.same("it is open", x.step(0), 2);
        Expect.same("answer of the third", x.answer(0, 2), 0);
    }

    private static void promise12InOrder() {
        PaperKeeper x = Keepers.withDraftIn(true, 4, 2, 3);
        Expect.fails("the second at first", Expect.STATE, () -> x.review(0, 2, true));
        Expect.fails("the third at first", Expect.STATE, () -> x.review(0, 3, true));
        Expect.same("the first", x.review(0, 4, true), 0);
        Expect.fails("the first again", Expect.STATE, () -> x.review(0, 4, true));
        Expect.fails("the third before the second", Expect.STATE, () -> x.review(0, 3, true));
        Expect.same("the second, a remark being open", x.review(0, 2, false), -1);
        x.reviewer(0, 1);
        Expect.same("the third", x.review(0, 3, true), 1);
        Expect.same("the one who was named later", x.review(0, 1, true), 2);
        x.change(0, 11);
        Expect.fails("the second at first in the next round", Expect.STATE, () -> x.review(0, 2, false));
        Expect.same("the first in the next round", x.review(0, 4, false), -1);
    }

    private static void promise13() {
        PaperKeeper x = Keepers.withPapers(false);
        Expect.fails("answer without a draft", Expect.STATE, () -> x.answer(0, 0));
        Expect.fails("answer -1 without a draft", Expect.STATE, () -> x.answer(0, -1));
        Expect.fails("answer of no paper", Expect.INDEX, () -> x.answer(1, 0));
        Expect.fails("answer of paper -1", Expect.INDEX, () -> x.answer(-1, 0));
        x.draft(0, 0, 10);
        for (int reviewer : new int[] {1, 2, 3, 4}) {
            x.reviewer(0, reviewer);
        }
        Expect.fails("answer without a remark", Expect.INDEX, () -> x.answer(0, 0));
        x.review(0, 2, true);
        x.review(0, 1, true);
        x.review(0, 3, false);
        Expect.fails("answer of a remark to come", Expect.INDEX, () -> x.answer(0, 2));
        x.review(0, 4, true);
        Expect.same("answer of the last", x.answer(0, 2), 2);
        Expect.fails("answer again", Expect.STATE, () -> x.answer(0, 2));
        for (int wrong : new int[] {-1, 3, 4, Integer.MIN_VALUE, Integer.MAX_VALUE}) {
            Expect.fails("answer of no remark", Expect.INDEX, () -> x.answer(0, wrong));
        }
        Expect.same("answer of the first", x.answer(0, 0), 1);
        Expect.same("one is open", x.step(0), 2);
        Expect.same("answer of the second", x.answer(0, 1), 0);
        Expect.same("none is open", x.step(0), 3);
        x.approve(0, 1, 1);
        Expect.fails("answer behind the approval", Expect.STATE, () -> x.answer(0, 1));
        Expect.fails("answer of no remark behind the approval", Expect.INDEX, () -> x.answer(0, 3));
        PaperKeeper y = Keepers.withDraft(1, 2, 3, 4);
        for (int remark = 0; remark < 4; remark++) {
            Expect.same("each reviewer's remark", y.review(0, 4 - remark, true), remark);
        }
        Expect.same("answer of the fourth", y.answer(0, 3), 3);
    }

    private static void promise14() {
        PaperKeeper x = Keepers.withPapers(false);
        Expect.fails("approve without a draft", Expect.STATE, () -> x.approve(0, 1, 1));
        Expect.fails("approve by 6 without a draft", Expect.ARGUMENT, () -> x.approve(0, 6, 1));
        Expect.fails("approve for today without a draft", Expect.ARGUMENT, () -> x.approve(0, 1, 0));
        Expect.fails("approve of no paper", Expect.INDEX, () -> x.approve(1, 6, 0));
        Expect.fails("approve of paper -1", Expect.INDEX, () -> x.approve(-1, 1, 1));
        x.draft(0, 0, 10);
        Expect.fails("approve without reviewers", Expect.STATE, () -> x.approve(0, 1, 1));
        x.reviewer(0, 1);
        Expect.fails("approve without a review", Expect.STATE, () -> x.approve(0, 2, 1));
        x.review(0, 1, true);
        Expect.fails("approve with a remark open", Expect.STATE, () -> x.approve(0, 2, 1));
        x.answer(0, 0);
        x.pass(7);
        for (int wrong : new int[] {-1, 6, Integer.MIN_VALUE, Integer.MAX_VALUE}) {
            Expect.fails("approve by a person out of range", Expect.ARGUMENT, () -> x.approve(0, wrong, 8));
        }
        for (int wrong : new int[] {7, 6, 0, -1, 1001, Integer.MIN_VALUE, Integer.MAX_VALUE}) {
            Expect.fails("approve for a day out of range", Expect.ARGUMENT, () -> x.approve(0, 2, wrong));
            Expect.fails("approve by the author for such a day", Expect.ARGUMENT, () -> x.approve(0, 0, wrong));
        }
        Expect.fails("approve by the author", Expect.STATE, () -> x.approve(0, 0, 8));
        x.approve(0, 2, 8);
        Expect.fails("approve again", Expect.STATE, () -> x.approve(0, 2, 9));
        Expect.same("it comes on the told day", x.pass(1), 1);
        Expect.same("which is", x.since(0, 0), 8);
        PaperKeeper y = Keepers.approvedFor(1000);
        Keepers.passTo(y, 999);
        Expect.same("day 1000 is not yet", y.inForce(0), -1);
        Expect.same("day 1000", y.pass(1), 1);
        y.draft(0, 0, 11);
        y.reviewer(0, 1);
        y.review(0, 1, false);
        Expect.fails("no day is later than the last", Expect.ARGUMENT, () -> y.approve(0, 2, 1001));
        Expect.fails("the last day itself is today", Expect.ARGUMENT, () -> y.approve(0, 2, 1000));
    }

    private static void promise14Persons() {
        PaperKeeper x = new PaperKeeper();
        x.open(false);
        x.setRoles(1, true, false);
        x.setRoles(2, false, true);
        x.setDeputy(2, 3);
        x.setDeputy(3, 4);
        x.setDeputy(1, 5);
        x.draft(0, 0, 10);
        x.reviewer(0, 1);
        x.review(0, 1, false);
        Expect.fails("a reviewer who may not approve", Expect.STATE, () -> x.approve(0, 1, 1));
        Expect.fails("the deputy of one who may not", Expect.STATE, () -> x.approve(0, 5, 1));
        Expect.fails("the deputy of a deputy", Expect.STATE, () -> x.approve(0, 4, 1));
        x.approve(0, 3, 1);
        Expect.same("the deputy of one who may", x.step(0), 5);
        x.change(0, 11);
        x.review(0, 1, false);
        x.setDeputy(2, -1);
        Expect.fails("who is a deputy no more", Expect.STATE, () -> x.approve(0, 3, 1));
        x.setDeputy(2, 0);
        Expect.fails("the author as a deputy", Expect.STATE, () -> x.approve(0, 0, 1));
        x.setDeputy(2, 4);
        x.setRoles(2, false, false);
        Expect.fails("the deputy of one who may no more", Expect.STATE, () -> x.approve(0, 4, 1));
        x.setRoles(0, false, true);
        x.setDeputy(0, 5);
        Expect.fails("the author who may approve", Expect.STATE, () -> x.approve(0, 0, 1));
        x.approve(0, 5, 1);
        Expect.same("the author's deputy is not the author", x.step(0), 5);
    }

    private static void promise14Deputies() {
        for (int person = 0; person < 6; person++) {
            int author = (person + 1) % 6;
            int deputy = (person + 2) % 6;
            int reviewer = (person + 3) % 6;
            PaperKeeper x = new PaperKeeper();
            x.open(false);
            x.setRoles(reviewer, true, false);
            x.draft(0, author, 10);
            x.reviewer(0, reviewer);
            x.review(0, reviewer, false);
            x.setDeputy(person, deputy);
            Expect.fails("nobody may approve", Expect.STATE, () -> x.approve(0, deputy, 1));
            x.setRoles(person, false, true);
            x.approve(0, deputy, 1);
            Expect.same("the deputy of person " + person, x.step(0), 5);
        }
    }

    private static void promise15() {
        PaperKeeper x = Keepers.withPapers(false);
        Expect.fails("confirm without a draft", Expect.STATE, () -> x.confirm(0, 1));
        Expect.fails("confirm by 6 without a draft", Expect.ARGUMENT, () -> x.confirm(0, 6));
        Expect.fails("confirm of no paper", Expect.INDEX, () -> x.confirm(1, 6));
        Expect.fails("confirm of paper -1", Expect.INDEX, () -> x.confirm(-1, 1));
        PaperKeeper y = Keepers.reviewed();
        for (int reader : new int[] {5, 0, 1, 4}) {
            y.reader(0, reader);
        }
        Expect.fails("confirm before the approval", Expect.STATE, () -> y.confirm(0, 5));
        y.approve(0, 2, 3);
        for (int wrong : new int[] {-1, 6, Integer.MIN_VALUE, Integer.MAX_VALUE}) {
            Expect.fails("confirm by a person out of range", Expect.ARGUMENT, () -> y.confirm(0, wrong));
        }
        Expect.fails("confirm by no reader", Expect.STATE, () -> y.confirm(0, 2));
        Expect.same("confirm by 4", y.confirm(0, 4), 3);
        Expect.fails("confirm by 4 again", Expect.STATE, () -> y.confirm(0, 4));
        Expect.same("confirm by the author", y.confirm(0, 0), 2);
        Expect.same("confirm by a reviewer", y.confirm(0, 1), 1);
        Expect.same("the told day goes by", y.pass(4), 0);
        Expect.same("confirm by the last", y.confirm(0, 5), 0);
        Expect.same("it is not in force on the same day", y.inForce(0), -1);
        Expect.same("but on the next", y.pass(1), 1);
        Expect.same("which is", y.since(0, 0), 5);
        Expect.fails("confirm of what is in force", Expect.STATE, () -> y.confirm(0, 5));
    }
}
