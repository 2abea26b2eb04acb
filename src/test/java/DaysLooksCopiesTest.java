/** Promises 16 to 21. */
public final class DaysLooksCopiesTest {
    public static void main(String[] args) {
        promise16();
        promise16Versions();
        promise17();
        promise18();
        promise18Hanging();
        promise18Numbers();
        forEachPaper();
        promise19();
        promise20();
        promise21();
        Expect.close("DaysLooksCopiesTest");
    }

    private static void promise16() {
        PaperKeeper x = new PaperKeeper();
        for (int wrong : new int[] {0, -1, 51, Integer.MIN_VALUE, Integer.MAX_VALUE}) {
            Expect.fails("pass out of range", Expect.ARGUMENT, () -> x.pass(wrong));
        }
        Expect.same("pass(1)", x.pass(1), 0);
        Expect.same("day 1", x.day(), 1);
        Expect.same("pass(50)", x.pass(50), 0);
        Expect.same("day 51", x.day(), 51);
        Keepers.passTo(x, 951);
        Expect.fails("pass to day 1001", Expect.STATE, () -> x.pass(50));
        Expect.same("pass to day 1000", x.pass(49), 0);
        Expect.same("day 1000", x.day(), 1000);
        Expect.fails("pass beyond day 1000", Expect.STATE, () -> x.pass(1));
        Expect.fails("pass(0) on day 1000", Expect.ARGUMENT, () -> x.pass(0));
        Expect.fails("pass(51) on day 1000", Expect.ARGUMENT, () -> x.pass(51));
    }

    private static void promise16Versions() {
        PaperKeeper x = Keepers.withPapers(false, true, false, false);
        Keepers.approve(x, 0, 10, 3);
        Keepers.approve(x, 1, 11, 7);
        Keepers.approve(x, 2, 12, 8);
        Keepers.approve(x, 3, 13, 7);
        x.reader(3, 4);
        Expect.same("before the first day", x.pass(2), 0);
        Expect.same("step of one that waits for its day", x.step(0), 5);
        Expect.same("two of them, on two days", x.pass(5), 2);
        Expect.same("the first one's day", x.since(0, 0), 3);
        Expect.same("the second one's day", x.since(1, 0), 7);
        Expect.same("the third one is not in force", x.inForce(2), -1);
        Expect.same("its draft is gone", x.step(0), 0);
        x.confirm(3, 4);
        Expect.same("two of them on one day", x.pass(10), 2);
        Expect.same("the third one's day", x.since(2, 0), 8);
        Expect.same("the confirmed one's day", x.since(3, 0), 8);
        Keepers.approve(x, 0, 20, 18);
        Expect.same("the former one until then", x.text(0), 10);
        Expect.same("a second version", x.pass(1), 1);
        Expect.same("the former one is out", x.inForce(0), 1);
        Expect.same("its text", x.text(0), 20);
        PaperKeeper y = Keepers.withPapers(false);
        y.draft(0, 0, 1);
        Expect.same("a draft without reviewers", y.pass(5), 0);
        y.reviewer(0, 1);
        y.review(0, 1, false);
        Expect.same("a draft that is not approved", y.pass(5), 0);
    }

    private static void promise17() {
        PaperKeeper x = Keepers.withPapers(false, false);
        Expect.fails("look without a version", Expect.STATE, () -> x.look(0));
        for (int wrong : new int[] {-1, 2, 8, Integer.MIN_VALUE, Integer.MAX_VALUE}) {
            Expect.fails("look at no paper", Expect.INDEX, () -> x.look(wrong));
        }
        Keepers.approve(x, 0, 10, 1);
        Expect.fails("look at an approved one", Expect.STATE, () -> x.look(0));
        x.pass(1);
        Expect.same("look at a new one", x.look(0), false);
        x.pass(29);
        Expect.same("look behind 29 days", x.look(0), false);
        x.pass(29);
        Expect.same("the interval began anew", x.isDue(0), false);
        x.pass(1);
        Expect.same("look behind 30 days", x.look(0), true);
        Expect.same("look again", x.look(0), false);
        x.pass(29);
        Expect.same("and anew", x.isDue(0), false);
        x.pass(1);
        Expect.same("until 30 days have gone by", x.isDue(0), true);
        endsBoth();
    }

    private static void endsBoth() {
        PaperKeeper x = Keepers.withPapers(false, false);
        x.hang(1, 0);
        Keepers.approve(x, 0, 10, 1);
        Keepers.renew(x, 1, 11);
        x.look(1);
        x.pass(40);
        Keepers.renew(x, 0, 12);
        Expect.same("due for both", x.isDue(1), true);
        Expect.same("look for both", x.look(1), true);
        Expect.same("both have ended", x.isDue(1), false);
        Expect.same("both have ended, said by look", x.look(1), false);
        x.pass(30);
        Expect.same("due by days alone", x.look(1), true);
    }

    private static void promise18() {
        PaperKeeper x = Keepers.withPapers(false, false);
        for (int wrong : new int[] {-1, 2, 8, Integer.MIN_VALUE, Integer.MAX_VALUE}) {
            Expect.fails("isDue of no paper", Expect.INDEX, () -> x.isDue(wrong));
        }
        x.pass(50);
        Expect.same("without a version", x.isDue(0), false);
        Keepers.renew(x, 0, 10);
        Expect.same("on the first day", x.isDue(0), false);
        x.pass(29);
        Expect.same("29 days on", x.isDue(0), false);
        Expect.same("asking ends nothing", x.isDue(0), false);
        x.pass(1);
        Expect.same("30 days on", x.isDue(0), true);
        Expect.same("asking ends nothing", x.isDue(0), true);
        x.pass(50);
        Expect.same("80 days on", x.isDue(0), true);
        x.setInterval(80);
        Expect.same("with another interval", x.isDue(0), true);
        x.setInterval(81);
        Expect.same("with a longer interval", x.isDue(0), false);
        x.setInterval(30);
        Keepers.renew(x, 0, 11);
        Expect.same("a new version begins it anew", x.isDue(0), false);
        x.pass(29);
        Expect.same("for 29 days", x.isDue(0), false);
        x.pass(1);
        Expect.same("not for 30", x.isDue(0), true);
    }

    private static void promise18Hanging() {
        PaperKeeper x = Keepers.withPapers(false, false, false, false);
        x.hang(1, 0);
        x.hang(2, 1);
        Keepers.renew(x, 1, 11);
        Keepers.renew(x, 2, 12);
        Keepers.renew(x, 3, 13);
        Expect.same("nothing is new below it", x.isDue(1), false);
        Keepers.renew(x, 0, 10);
        Expect.same("it hangs on a new version", x.isDue(1), true);
        Expect.same("what hangs on it does not yet", x.isDue(2), false);
        Expect.same("what does not hang", x.isDue(3), false);
        Expect.same("the new version itself", x.isDue(0), false);
        x.hang(3, 0);
        Expect.same("hanging later", x.isDue(3), false);
        Keepers.renew(x, 1, 14);
        Expect.same("its own new version ends it", x.isDue(1), false);
        Expect.same("and asks for the next", x.isDue(2), true);
        Expect.same("asked by both", x.look(2), true);
        Keepers.renew(x, 0, 15);
        Expect.same("all that hang on it: 1", x.isDue(1), true);
        Expect.same("all that hang on it: 3", x.isDue(3), true);
        PaperKeeper y = Keepers.withPapers(false, false);
        y.hang(1, 0);
        Keepers.renew(y, 0, 10);
        Expect.same("without a version", y.isDue(1), false);
        Keepers.renew(y, 1, 11);
        Expect.same("its version came later", y.isDue(1), false);
    }

    private static void promise18Numbers() {
        PaperKeeper x = Keepers.withPapers(false, false);
        x.hang(0, 1);
        x.hang(1, 0);
        Keepers.approve(x, 0, 10, 1);
        Keepers.approve(x, 1, 11, 1);
        Expect.same("both on one day", x.pass(1), 2);
        Expect.same("the lower number came first", x.isDue(0), true);
        Expect.same("the higher number came last", x.isDue(1), false);
        x.look(0);
        Keepers.approve(x, 0, 12, 2);
        Keepers.approve(x, 1, 13, 2);
        x.pass(1);
        Expect.same("the lower number again", x.isDue(0), true);
        Expect.same("the higher number again", x.isDue(1), false);
    }

    /** The first paper and the last are renewed, and asked for, as the others are. */
    private static void forEachPaper() {
        PaperKeeper x = Keepers.withPapers(false, true, false, true, false, true, false, true);
        for (int paper = 0; paper < 8; paper++) {
            x.hang(paper, (paper + 3) % 8);
            Keepers.approve(x, paper, 100 + paper, 1);
        }
        Expect.same("eight versions on one day", x.pass(1), 8);
        for (int paper = 0; paper < 8; paper++) {
            Expect.same("text of paper " + paper, x.text(paper), 100 + paper);
            Expect.same("one with a higher number came later", x.isDue(paper), paper < 5);
            x.look(paper);
        }
        for (int paper = 0; paper < 8; paper++) {
            Keepers.renew(x, (paper + 3) % 8, 200);
            for (int other = 0; other < 8; other++) {
                Expect.same("what hangs on the new one alone", x.isDue(other), other == paper);
            }
            x.look(paper);
        }
    }

    private static void promise19() {
        PaperKeeper x = Keepers.withPapers(false, false);
        Expect.fails("copy without a version", Expect.STATE, () -> x.copy(0, 0));
        Expect.fails("copy on wall 10 without a version", Expect.ARGUMENT, () -> x.copy(0, 10));
        for (int wrong : new int[] {-1, 2, 8, Integer.MIN_VALUE, Integer.MAX_VALUE}) {
            Expect.fails("copy of no paper", Expect.INDEX, () -> x.copy(wrong, 10));
        }
        Keepers.renew(x, 0, 10);
        Keepers.renew(x, 1, 11);
        for (int wrong : new int[] {-1, 10, Integer.MIN_VALUE, Integer.MAX_VALUE}) {
            Expect.fails("copy on no wall", Expect.ARGUMENT, () -> x.copy(0, wrong));
        }
        for (int number = 0; number < 30; number++) {
            Expect.same("copy", x.copy(number % 2, number % 10), number);
        }
        Expect.fails("a copy more", Expect.STATE, () -> x.copy(0, 0));
        Expect.fails("a copy more on wall 10", Expect.ARGUMENT, () -> x.copy(0, 10));
        Expect.same("the last one's wall", x.takeDown(29), 9);
        Expect.fails("a copy more when one is down", Expect.STATE, () -> x.copy(0, 0));
        PaperKeeper y = Keepers.withPapers(false);
        Keepers.renew(y, 0, 10);
        y.copy(0, 9);
        y.takeDown(0);
        Expect.same("numbers are not used again", y.copy(0, 9), 1);
    }

    private static void promise20() {
        PaperKeeper x = Keepers.withPapers(false);
        Expect.fails("takeDown without copies", Expect.INDEX, () -> x.takeDown(0));
        Keepers.renew(x, 0, 10);
        x.copy(0, 9);
        x.copy(0, 0);
        x.copy(0, 9);
        for (int wrong : new int[] {-1, 3, 30, Integer.MIN_VALUE, Integer.MAX_VALUE}) {
            Expect.fails("takeDown of no copy", Expect.INDEX, () -> x.takeDown(wrong));
        }
        Expect.same("takeDown(1)", x.takeDown(1), 0);
        Expect.fails("takeDown(1) again", Expect.INDEX, () -> x.takeDown(1));
        Keepers.renew(x, 0, 11);
        Expect.same("takeDown(0), out of date", x.takeDown(0), 9);
        Expect.fails("takeDown(0) again", Expect.INDEX, () -> x.takeDown(0));
        Expect.same("takeDown(2)", x.takeDown(2), 9);
    }

    private static void promise21() {
        PaperKeeper x = Keepers.withPapers(false, false);
        for (int wrong : new int[] {-1, 2, 8, Integer.MIN_VALUE, Integer.MAX_VALUE}) {
            Expect.fails("outOfDate of no paper", Expect.INDEX, () -> x.outOfDate(wrong));
        }
        Expect.same("without a version", x.outOfDate(0), 0);
        Keepers.renew(x, 0, 10);
        Keepers.renew(x, 1, 11);
        x.copy(0, 1);
        x.copy(1, 1);
        x.copy(0, 2);
        Expect.same("all are of the version in force", x.outOfDate(0), 0);
        Keepers.approve(x, 0, 12, x.day() + 1);
        Expect.same("approved is not in force", x.outOfDate(0), 0);
        x.pass(1);
        Expect.same("both are out of date", x.outOfDate(0), 2);
        Expect.same("the other paper's is not", x.outOfDate(1), 0);
        x.copy(0, 3);
        Expect.same("the new one is not", x.outOfDate(0), 2);
        x.takeDown(3);
        Expect.same("taking the new one down", x.outOfDate(0), 2);
        x.takeDown(0);
        Expect.same("taking an old one down", x.outOfDate(0), 1);
        x.copy(0, 4);
        Keepers.renew(x, 0, 10);
        Expect.same("the former text in a new version", x.outOfDate(0), 2);
    }
}
