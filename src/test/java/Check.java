/** What the tests share: they count and print each answer that is not the one that is due. */
final class Check {
    private static int wrong = 0;

    private Check() {
    }

    /** A call that may throw. */
    interface Call {
        void make();
    }

    static void is(String what, long got, long due) {
        if (got != due) {
            tell(what + " answered " + got + ", due is " + due);
        }
    }

    static void is(String what, boolean got, boolean due) {
        if (got != due) {
            tell(what + " answered " + got + ", due is " + due);
        }
    }

    static void isDouble(String what, double got, double due) {
        if (got != due) {
            tell(what + " answered " + got + ", due is " + due);
        }
    }

    static void index(Iemotohall x, String what, Call call) {
        refused(x, what, call, IndexOutOfBoundsException.class);
    }

    static void argument(Iemotohall x, String what, Call call) {
        refused(x, what, call, IllegalArgumentException.class);
    }

    static void state(Iemotohall x, String what, Call call) {
        refused(x, what, call, IllegalStateException.class);
    }

    static void tell(String text) {
        wrong++;
        System.out.println(text);
    }

    /** Ends the program: with 1, if something was wrong. */
    static void end(String test) {
        System.out.println(test + ": " + (wrong == 0 ? "all as due" : wrong + " not as due"));
        if (wrong != 0) {
            System.exit(1);
        }
    }

    /** The very class is asked for: what the machine throws is of classes below these. */
    private static void refused(Iemotohall x, String what, Call call, Class<?> due) {
        long before = x.digest();
        Class<?> thrown = null;
        try {
            call.make();
        } catch (RuntimeException e) {
            thrown = e.getClass();
        }
        if (thrown != due) {
            tell(what + " threw " + thrown + ", due is " + due);
        }
        if (x.digest() != before) {
            tell(what + " changed something, though it throws");
        }
    }
}
