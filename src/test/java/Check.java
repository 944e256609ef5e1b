/** Counts the answers that are not the ones that are due, and prints each of them. */
final class Check {
    interface Call {
        void make();
    }

    private static int wrong = 0;

    private Check() {
    }

    static void is(String call, long got, long due) {
        if (got != due) {
            wrong++;
            System.out.println(call + " answered " + got + ", due is " + due);
        }
    }

    static void is(String call, boolean got, boolean due) {
        is(call, got ? 1 : 0, due ? 1 : 0);
    }

    static void same(String call, String got, String due) {
        if (!got.equals(due)) {
            wrong++;
            System.out.println(call + " answered " + got + ", due is " + due);
        }
    }

    /** The call throws an exception of exactly this class. */
    static void fails(String call, Class<? extends RuntimeException> due, Call made) {
        String got = "nothing";
        try {
            made.make();
        } catch (RuntimeException e) {
            got = e.getClass().getName();
        }
        same(call, "thrown " + got, "thrown " + due.getName());
    }

    static void end() {
        System.out.println(wrong == 0 ? "all answers are as due" : wrong + " answers are not as due");
        if (wrong != 0) {
            System.exit(1);
        }
    }
}
