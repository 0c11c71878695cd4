/** Counts and prints what is not as due; a test's main method ends with {@link #end()}. */
final class Check {
    private static int wrong = 0;

    private Check() {
    }

    static void answers(String call, long due, long got) {
        if (due != got) {
            fail(call + " answered " + got + ", due is " + due);
        }
    }

    static void same(String what, String due, String got) {
        if (!due.equals(got)) {
            fail(what + ":\n  due " + due + "\n  got " + got);
        }
    }

    static void holds(String what, boolean holds) {
        if (!holds) {
            fail(what);
        }
    }

    /** What the last closing out's layers bore. */
    static void bore(String after, House house, long... due) {
        for (int layer = 0; layer <= 4; layer++) {
            answers(after + ": bore(" + layer + ")", due[layer], house.bore(layer));
        }
    }

    /** Where a member stands, its cash and its contribution. */
    static void told(String after, House house, int member, long... due) {
        for (int what = 0; what <= 2; what++) {
            answers(after + ": told(" + member + ", " + what + ")", due[what], house.told(member, what));
        }
    }

    static void end() {
        if (wrong != 0) {
            System.out.println(wrong + " checks failed");
            System.exit(1);
        }
    }

    private static void fail(String text) {
        wrong++;
        System.out.println(text);
    }
}
