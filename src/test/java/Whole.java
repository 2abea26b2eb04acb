import java.util.List;
import java.util.function.Consumer;
import java.util.function.IntSupplier;
import java.util.function.Supplier;

/**
 * Tells all that an object keeps, by what it answers to calls that reach it; since they change it, each kind of them
 * is made on an object of its own.
 */
final class Whole {
    private static final int PERSONS = 6;
    private static final List<Consumer<Whole>> KINDS = List.of(
        Whole::whatIs, Whole::log, Whole::interval, Whole::looks, Whole::deputies, whole -> whole.roles(0),
        whole -> whole.roles(5), Whole::draftsAsTheyAre, Whole::namings, Whole::nextRounds, Whole::toTheEnd,
        Whole::days, Whole::lastDays, Whole::papersAndCopies);

    private final PaperKeeper x;
    private final StringBuilder told = new StringBuilder();
    private final int papers;

    private Whole(PaperKeeper x) {
        this.x = x;
        int count = 0;
        while (count < 9 && isThere(x, count)) {
            count++;
        }
        papers = count;
    }

    private static boolean isThere(PaperKeeper x, int paper) {
        return Expect.thrownBy(() -> x.step(paper)).equals("nothing");
    }

    /** How an object for which the call was made differs from one for which it was not. */
    static String difference(Supplier<PaperKeeper> made, Consumer<PaperKeeper> call) {
        for (int i = 0; i < KINDS.size(); i++) {
            PaperKeeper called = made.get();
            call.accept(called);
            String without = told(KINDS.get(i), made.get());
            String with = told(KINDS.get(i), called);
            if (!with.equals(without)) {
                return "kind " + i + " of calls: " + with + " and not " + without;
            }
        }
        return "the same";
    }

    private static String told(Consumer<Whole> kind, PaperKeeper x) {
        Whole whole = new Whole(x);
        kind.accept(whole);
        return whole.told.toString();
    }

    private void ask(IntSupplier call) {
        told.append(' ');
        String thrown = Expect.thrownBy(() -> told.append(call.getAsInt()));
        told.append(thrown.equals("nothing") ? "" : thrown);
    }

    private void act(Runnable call) {
        ask(() -> {
            call.run();
            return 0;
        });
    }

    private void isDue(int paper) {
        ask(() -> x.isDue(paper) ? 1 : 0);
    }

    private void whatIs() {
        ask(x::day);
        for (int i = 0; i < papers; i++) {
            int paper = i;
            ask(() -> x.step(paper));
            ask(() -> x.waitsFor(paper));
            ask(() -> x.inForce(paper));
            ask(() -> x.text(paper));
            ask(() -> x.outOfDate(paper));
            isDue(paper);
        }
    }

    private void log() {
        for (int i = 0; i < papers; i++) {
            int paper = i;
            for (int version = 0; version <= x.inForce(paper) + 1; version++) {
                int each = version;
                ask(() -> x.since(paper, each));
            }
            for (int day = Math.max(0, x.day() - 20); day <= x.day() + 1; day++) {
                int each = day;
                ask(() -> x.inForceOn(paper, each));
            }
        }
    }

    private void interval() {
        for (int days : new int[] {1, 2, 3, 4, 5, 6, 7, 8, 9, 10, 20, 29, 30, 31, 50, 99, 100}) {
            ask(() -> x.setInterval(days));
            for (int paper = 0; paper < papers; paper++) {
                isDue(paper);
            }
        }
    }

    private void looks() {
        for (int i = 0; i < papers; i++) {
            int paper = i;
            ask(() -> x.look(paper) ? 1 : 0);
            isDue(paper);
        }
        for (int i = 0; i < 10; i++) {
            ask(() -> x.pass(5));
            for (int paper = 0; paper < papers; paper++) {
                isDue(paper);
            }
        }
    }

    private void deputies() {
        for (int i = 0; i < PERSONS; i++) {
            int person = i;
            ask(() -> x.setDeputy(person, -1));
        }
    }

    /** What each may, but for a helper, who is let review so that rounds come to their end. */
    private void roles(int helper) {
        int paper = papers < 8 ? papers : 0;
        act(() -> x.open(true));
        deputies();
        act(() -> x.drop(paper));
        x.setRoles(helper, true, false);
        for (int i = 0; i < PERSONS; i++) {
            int person = i;
            int author = (person == 1 ? 2 : 1) + (helper == 0 ? 2 : 0);
            int writer = author == person ? author - 1 : author;
            x.draft(paper, writer, 1);
            act(() -> x.reviewer(paper, person));
            act(() -> x.drop(paper));
            x.draft(paper, writer, 1);
            act(() -> x.reviewer(paper, helper));
            act(() -> x.review(paper, helper, false));
            act(() -> x.approve(paper, person, 1000));
            act(() -> x.drop(paper));
        }
    }

    private void draftsAsTheyAre() {
        for (int i = 0; i < papers; i++) {
            int paper = i;
            for (int person = 0; person < PERSONS; person++) {
                int each = person;
                ask(() -> x.confirm(paper, each));
                ask(() -> x.review(paper, each, true));
            }
            ask(() -> x.waitsFor(paper));
            for (int remark = 0; remark < 5; remark++) {
                int each = remark;
                ask(() -> x.answer(paper, each));
            }
            for (int person = 0; person < PERSONS; person++) {
                int each = person;
                act(() -> x.approve(paper, each, 1000));
            }
            ask(() -> x.step(paper));
            ask(() -> x.drop(paper));
        }
    }

    private void allMay() {
        for (int person = 0; person < PERSONS; person++) {
            x.setRoles(person, true, true);
        }
    }

    private void namings() {
        allMay();
        for (int i = 0; i < papers; i++) {
            int paper = i;
            for (int person = 0; person < PERSONS; person++) {
                int each = person;
                ask(() -> x.reader(paper, each));
                ask(() -> x.reviewer(paper, each));
                ask(() -> x.review(paper, each, false));
            }
            ask(() -> x.step(paper));
        }
    }

    private void nextRounds() {
        for (int i = 0; i < papers; i++) {
            int paper = i;
            ask(() -> x.change(paper, 7777));
            for (int turn = 0; turn < 5; turn++) {
                ask(() -> x.waitsFor(paper));
                ask(() -> x.review(paper, x.waitsFor(paper), true));
            }
            ask(() -> x.drop(paper));
        }
    }

    /** Each draft as far as it comes, without its being changed, and its readers then. */
    private void toTheEnd() {
        allMay();
        for (int i = 0; i < papers; i++) {
            int paper = i;
            for (int turn = 0; turn < 4; turn++) {
                ask(() -> x.review(paper, x.waitsFor(paper), false));
            }
            for (int remark = 0; remark < 4; remark++) {
                int each = remark;
                ask(() -> x.answer(paper, each));
            }
            act(() -> x.approve(paper, 4, x.day() + 1));
            act(() -> x.approve(paper, 5, x.day() + 1));
        }
        confirmAll();
        ask(() -> x.pass(1));
    }

    private void confirmAll() {
        for (int i = 0; i < papers; i++) {
            int paper = i;
            for (int person = 0; person < PERSONS; person++) {
                int each = person;
                ask(() -> x.confirm(paper, each));
            }
        }
    }

    private void days() {
        confirmAll();
        for (int i = 0; i < 12; i++) {
            ask(() -> x.pass(1));
            for (int paper = 0; paper < papers; paper++) {
                int each = paper;
                ask(() -> x.text(each));
                isDue(paper);
            }
        }
    }

    private void lastDays() {
        confirmAll();
        for (int days : new int[] {50, 1}) {
            for (int i = 0; i < 60 && x.day() + days <= 1000; i++) {
                ask(() -> x.pass(days));
            }
        }
        ask(() -> x.pass(1));
        for (int i = 0; i < papers; i++) {
            int paper = i;
            ask(() -> x.since(paper, x.inForce(paper)));
        }
    }

    private void papersAndCopies() {
        for (int i = 0; i < 31; i++) {
            int copy = i;
            ask(() -> x.takeDown(copy));
        }
        for (int i = 0; i < papers; i++) {
            int paper = i;
            ask(() -> x.copy(paper, 3));
        }
        act(() -> x.open(true));
        for (int i = 0; i < papers; i++) {
            for (int other = 0; other < papers; other++) {
                int on = other;
                int paper = i;
                ask(() -> x.hang(paper, on));
            }
        }
    }
}
