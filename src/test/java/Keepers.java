/** Objects in states that tests begin with. */
final class Keepers {
    static final int[] WILD = {Integer.MIN_VALUE, -1000, -2, Integer.MAX_VALUE};

    private Keepers() {
    }

    /** Everybody may review and approve; papers in order by the arguments. */
    static PaperKeeper withPapers(boolean... inOrder) {
        PaperKeeper keeper = new PaperKeeper();
        for (int person = 0; person < 6; person++) {
            keeper.setRoles(person, true, true);
        }
        for (boolean each : inOrder) {
            keeper.open(each);
        }
        return keeper;
    }

    /** One paper, side by side, with a draft of person 0 and of text 10, and these reviewers. */
    static PaperKeeper withDraft(int... reviewers) {
        return withDraftIn(false, reviewers);
    }

    static PaperKeeper withDraftIn(boolean inOrder, int... reviewers) {
        PaperKeeper keeper = withPapers(inOrder);
        keeper.draft(0, 0, 10);
        for (int reviewer : reviewers) {
            keeper.reviewer(0, reviewer);
        }
        return keeper;
    }

    /** As withDraft, behind its round, which person 1 alone has reviewed. */
    static PaperKeeper reviewed() {
        PaperKeeper keeper = withDraft(1);
        keeper.review(0, 1, false);
        return keeper;
    }

    /** As reviewed, with these readers, approved for a day. */
    static PaperKeeper approvedFor(int day, int... readers) {
        PaperKeeper keeper = reviewed();
        for (int reader : readers) {
            keeper.reader(0, reader);
        }
        keeper.approve(0, 2, day);
        return keeper;
    }

    /** Writes a text of person 0, lets person 1 review and person 2 approve it. */
    static void approve(PaperKeeper keeper, int paper, int text, int day) {
        keeper.draft(paper, 0, text);
        keeper.reviewer(paper, 1);
        keeper.review(paper, 1, false);
        keeper.approve(paper, 2, day);
    }

    /** As approve, for tomorrow, and lets this day go by. */
    static void renew(PaperKeeper keeper, int paper, int text) {
        approve(keeper, paper, text, keeper.day() + 1);
        keeper.pass(1);
    }

    static void passTo(PaperKeeper keeper, int day) {
        while (keeper.day() < day) {
            keeper.pass(Math.min(50, day - keeper.day()));
        }
    }

    /** As many papers, side by side; everybody may review and approve. */
    static PaperKeeper papers(int count) {
        return withPapers(new boolean[count]);
    }

    /** Each of the papers with a draft of person 0, its text being 10 more than its number, and reviewer 1. */
    static PaperKeeper drafts(int count) {
        PaperKeeper keeper = papers(count);
        for (int paper = 0; paper < count; paper++) {
            keeper.draft(paper, 0, 10 + paper);
            keeper.reviewer(paper, 1);
        }
        return keeper;
    }

    /** As drafts, each with a remark of its reviewer, and reader 4. */
    static PaperKeeper remarked(int count) {
        PaperKeeper keeper = drafts(count);
        for (int paper = 0; paper < count; paper++) {
            keeper.reader(paper, 4);
            keeper.review(paper, 1, true);
        }
        return keeper;
    }

    /** As remarked, each remark being answered. */
    static PaperKeeper answered(int count) {
        PaperKeeper keeper = remarked(count);
        for (int paper = 0; paper < count; paper++) {
            keeper.answer(paper, 0);
        }
        return keeper;
    }

    /** As answered, each approved for day 5. */
    static PaperKeeper approved(int count) {
        PaperKeeper keeper = answered(count);
        for (int paper = 0; paper < count; paper++) {
            keeper.approve(paper, 2, 5);
        }
        return keeper;
    }

    /** Each of the papers in force since day 1, its text being 10 more than its number. */
    static PaperKeeper inForce(int count) {
        PaperKeeper keeper = papers(count);
        for (int paper = 0; paper < count; paper++) {
            approve(keeper, paper, 10 + paper, 1);
        }
        keeper.pass(1);
        return keeper;
    }

    /** One paper in force since day 1, of which this many copies hang, the walls being gone through in turn. */
    static PaperKeeper copied(int copies) {
        PaperKeeper keeper = inForce(1);
        for (int copy = 0; copy < copies; copy++) {
            keeper.copy(0, copy % 10);
        }
        return keeper;
    }

    static PaperKeeper onDay(PaperKeeper keeper, int day) {
        passTo(keeper, day);
        return keeper;
    }

    /**
     * Paper 0 has version 0, a copy up and one down, and is approved for day 9 with readers 3 (confirmed) and 4;
     * paper 1, in order, is in its round, with an answered remark, an open one, and reviewer 4 to come; paper 2 hangs
     * on 0 and has a version; paper 3 is empty.
     */
    static PaperKeeper midway() {
        PaperKeeper x = withPapers(false, true, false, false);
        x.setRoles(5, false, false);
        x.setDeputy(2, 5);
        x.hang(2, 0);
        renew(x, 0, 10);
        renew(x, 2, 12);
        x.copy(0, 4);
        x.copy(0, 5);
        x.takeDown(1);
        approve(x, 0, 20, 9);
        x.reader(0, 3);
        x.reader(0, 4);
        x.confirm(0, 3);
        x.draft(1, 0, 11);
        x.reviewer(1, 3);
        x.reviewer(1, 2);
        x.reviewer(1, 4);
        x.reader(1, 3);
        x.review(1, 3, true);
        x.review(1, 2, true);
        x.answer(1, 0);
        return x;
    }
}
