/** Counts and prints the answers of a test that are not the ones that are due. */
final class Check {
    static final Class<? extends RuntimeException> INDEX = IndexOutOfBoundsException.class;
    static final Class<? extends RuntimeException> ARGUMENT = IllegalArgumentException.class;
    static final Class<? extends RuntimeException> STATE = IllegalStateException.class;

    private static int answers = 0;
    private static int wrong = 0;

    private Check() {
    }

    static void same(String what, long due, long answer) {
        answers++;
        if (due != answer) {
            fail(what + " answered " + answer + ", due is " + due);
        }
    }

    /** The call throws just this exception, and changes nothing that the digest tells. */
    static void refused(String what, Class<? extends RuntimeException> due, FreezeCredits x, Runnable call) {
        answers++;
        long before = x.digest();
        Class<?> thrown = null;
        try {
            call.run();
        } catch (RuntimeException e) {
            thrown = e.getClass();
        }
        if (thrown != due) {
            fail(what + " threw " + thrown + ", due is " + due);
        }
        if (x.digest() != before) {
            fail(what + " changed the state");
        }
    }

    static void fail(String what) {
        wrong++;
        System.out.println(what);
    }

    static void end() {
        System.out.println(answers + " answers, " + wrong + " not as due");
        if (wrong != 0 || answers == 0) {
            System.exit(1);
        }
    }
}
