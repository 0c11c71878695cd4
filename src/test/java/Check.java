/** Counts and prints what is not as due; a test's main method ends with {@link #end()}. */
final class Check {
    private static int wrong = 0;

    private Check() {
    }

    static void answers(String call, long due, long got) {
        if (due != got) {
            fail(call + " answered " + got + ", due is " + due);
        }
    }

    static void same(String what, String due, String got) {
        if (!due.equals(got)) {
            fail(what + ":\n  due " + due + "\n  got " + got);
        }
    }

    static void holds(String what, boolean holds) {
        if (!holds) {
            fail(what);
        }
    }

    static void argument(String call, Runnable run) {
        same(call, "IllegalArgumentException", thrownBy(run));
    }

    static void state(String call, Runnable run) {
        same(call, "IllegalStateException", thrownBy(run));
    }

    static void nothing(String call, Runnable run) {
        same(call, "nothing", thrownBy(run));
    }

    /** The call throws IllegalArgumentException and leaves all that the house tells as it was. */
    static void argumentLeaves(MarginHouse house, String call, Runnable run) {
        String before = Houses.seen(house);
        argument(call, run);
        same("after " + call, before, Houses.seen(house));
    }

    /** The call throws IllegalStateException and leaves all that the house tells as it was. */
    static void stateLeaves(MarginHouse house, String call, Runnable run) {
        String before = Houses.seen(house);
        state(call, run);
        same("after " + call, before, Houses.seen(house));
    }

    /** The call answers NONE and leaves all that the house tells as it was. */
    static void noneLeaves(MarginHouse house, String call, java.util.function.LongSupplier run) {
        String before = Houses.seen(house);
        answers(call, -1, run.getAsLong());
        same("after " + call, before, Houses.seen(house));
    }

    static void end() {
        if (wrong != 0) {
            System.out.println(wrong + " checks failed");
            System.exit(1);
        }
    }

    private static String thrownBy(Runnable run) {
        try {
            run.run();
            return "nothing";
        } catch (RuntimeException e) {
            return e.getClass().getSimpleName();
        }
    }

    private static void fail(String text) {
        wrong++;
        System.out.println(text);
    }
}
