/** Compares answers with what is due, prints those that differ, and ends with exit code 1 if there was one. */
final class Expect {
    static final Class<?> INDEX = IndexOutOfBoundsException.class;
    static final Class<?> ARGUMENT = IllegalArgumentException.class;
    static final Class<?> STATE = IllegalStateException.class;

    private static String test = "";
    private static int checks = 0;
    private static int wrong = 0;

    private Expect() {
    }

    /** One test: what it finds wrong is told behind its name, and it has to check something. */
    static void test(String name, Runnable body) {
        test = name + ": ";
        int before = checks;
        same("the test", thrownBy(body), "nothing");
        if (checks == before + 1) {
            wrong("checks nothing");
        }
        test = "";
    }

    static void wrong(String text) {
        wrong++;
        System.out.println(test + text);
    }

    static void same(String call, long got, long due) {
        checks++;
        if (got != due) {
            wrong(call + " answered " + got + ", due is " + due);
        }
    }

    static void same(String call, boolean got, boolean due) {
        same(call, got ? 1 : 0, due ? 1 : 0);
    }

    static void same(String call, String got, String due) {
        checks++;
        if (!got.equals(due)) {
            wrong(call + " answered " + got + ", due is " + due);
        }
    }

    static void passes(String call, Runnable body) {
        same(call, thrownBy(body), "nothing");
    }

    /** The call must throw just this class, no class below it, as the machine's own would be. */
    static void fails(String call, Class<?> due, Runnable body) {
        same(call, thrownBy(body), due.getSimpleName());
    }

    static String thrownBy(Runnable body) {
        try {
            body.run();
        } catch (RuntimeException e) {
            return e.getClass().getSimpleName();
        }
        return "nothing";
    }

    static void close(String name) {
        System.out.println(name + ": " + checks + " checks, " + wrong + " wrong");
        if (wrong != 0 || checks == 0) {
            System.exit(1);
        }
    }
}
