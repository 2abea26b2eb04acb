/** Objects in states that tests begin with. */
final class Keepers {
    static final int[] WILD = {Integer.MIN_VALUE, -1000, -2, Integer.MAX_VALUE};

    private Keepers() {
    }

    /** Everybody may review and approve; papers in order by the arguments. */
    static PaperKeeper withPapers(boolean... inOrder) {
        PaperKeeper keeper = new PaperKeeper();
        for (int person = 0; person < 6; person++) {
            keeper.setRoles(person, true, true);
        }
        for (boolean each : inOrder) {
            keeper.open(each);
        }
        return keeper;
    }

    /** One paper, side by side, with a draft of person 0 and of text 10, and these reviewers. */
    static PaperKeeper withDraft(int... reviewers) {
        return withDraftIn(false, reviewers);
    }

    static PaperKeeper withDraftIn(boolean inOrder, int... reviewers) {
        PaperKeeper keeper = withPapers(inOrder);
        keeper.draft(0, 0, 10);
        for (int reviewer : reviewers) {
            keeper.reviewer(0, reviewer);
        }
        return keeper;
    }

    /** As withDraft, behind its round, which person 1 alone has reviewed. */
    static PaperKeeper reviewed() {
        PaperKeeper keeper = withDraft(1);
        keeper.review(0, 1, false);
        return keeper;
    }

    /** As reviewed, with these readers, approved for a day. */
    static PaperKeeper approvedFor(int day, int... readers) {
        PaperKeeper keeper = reviewed();
        for (int reader : readers) {
            keeper.reader(0, reader);
        }
        keeper.approve(0, 2, day);
        return keeper;
    }

    /** Writes a text of person 0, lets person 1 review and person 2 approve it. */
    static void approve(PaperKeeper keeper, int paper, int text, int day) {
        keeper.draft(paper, 0, text);
        keeper.reviewer(paper, 1);
        keeper.review(paper, 1, false);
        keeper.approve(paper, 2, day);
    }

    /** As approve, for tomorrow, and lets this day go by. */
    static void renew(PaperKeeper keeper, int paper, int text) {
        approve(keeper, paper, text, keeper.day() + 1);
        keeper.pass(1);
    }

    static void passTo(PaperKeeper keeper, int day) {
        while (keeper.day() < day) {
            keeper.pass(Math.min(50, day - keeper.day()));
        }
    }
}
