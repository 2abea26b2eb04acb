/** Compares answers with what is due, prints those that differ, and ends with exit code 1 if there was one. */
final class Expect {
    static final Class<?> INDEX = IndexOutOfBoundsException.class;
    static final Class<?> ARGUMENT = IllegalArgumentException.class;
    static final Class<?> STATE = IllegalStateException.class;

    private static int checks = 0;
    private static int wrong = 0;

    private Expect() {
    }

    static void same(String call, long got, long due) {
        checks++;
        if (got != due) {
            wrong++;
            System.out.println(call + " answered " + got + ", due is " + due);
        }
    }

    static void same(String call, boolean got, boolean due) {
        same(call, got ? 1 : 0, due ? 1 : 0);
    }

    static void same(String call, String got, String due) {
        checks++;
        if (!got.equals(due)) {
            wrong++;
            System.out.println(call + " answered " + got + ", due is " + due);
        }
    }

    /** The call must throw just this class (no class below it, as the machine's own would be) and change nothing. */
    static void fails(String call, Class<?> due, PaperKeeper keeper, Runnable body) {
        String before = stateOf(keeper);
        same(call, thrownBy(body), due.getSimpleName());
        same(call + ", the state behind it", stateOf(keeper), before);
    }

    static String thrownBy(Runnable body) {
        try {
            body.run();
        } catch (RuntimeException e) {
            return e.getClass().getSimpleName();
        }
        return "nothing";
    }

    /** All that the questions of the face tell. */
    static String stateOf(PaperKeeper keeper) {
        StringBuilder state = new StringBuilder("day ").append(keeper.day());
        for (int paper = 0; hasPaper(keeper, paper); paper++) {
            state.append("; ").append(paper).append(':');
            state.append(' ').append(keeper.step(paper)).append(' ').append(keeper.waitsFor(paper));
            state.append(' ').append(keeper.inForce(paper)).append(' ').append(keeper.text(paper));
            state.append(' ').append(keeper.isDue(paper)).append(' ').append(keeper.outOfDate(paper));
            for (int version = 0; version <= keeper.inForce(paper); version++) {
                state.append(" v").append(keeper.since(paper, version));
            }
        }
        return state.toString();
    }

    private static boolean hasPaper(PaperKeeper keeper, int paper) {
        try {
            keeper.step(paper);
        } catch (IndexOutOfBoundsException e) {
            return false;
        }
        return true;
    }

    static void close(String name) {
        System.out.println(name + ": " + checks + " checks, " + wrong + " wrong");
        if (wrong != 0 || checks == 0) {
            System.exit(1);
        }
    }
}
