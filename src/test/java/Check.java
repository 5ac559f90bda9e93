import java.util.function.IntConsumer;

/** What the tests share: they count and print each answer that is not the one that is due. */
final class Check {
    private static int wrong = 0;
    private static String sentence = "";

    private Check() {
    }

    /** A call that may throw. */
    interface Call {
        void make();
    }

    /** The sentence that is tested from now on; it stands ahead of what is told. */
    static void about(String text) {
        sentence = text;
    }

    static void is(String what, long got, long due) {
        if (got != due) {
            tell(what + " answered " + got + ", due is " + due);
        }
    }

    static void is(String what, boolean got, boolean due) {
        if (got != due) {
            tell(what + " answered " + got + ", due is " + due);
        }
    }

    static void isDouble(String what, double got, double due) {
        if (got != due) {
            tell(what + " answered " + got + ", due is " + due);
        }
    }

    static void index(Iemotohall x, String what, Call call) {
        refused(x, what, call, IndexOutOfBoundsException.class);
    }

    static void argument(Iemotohall x, String what, Call call) {
        refused(x, what, call, IllegalArgumentException.class);
    }

    static void state(Iemotohall x, String what, Call call) {
        refused(x, what, call, IllegalStateException.class);
    }

    /** Each number just outside of least to most, and far outside, is refused as one that is not there. */
    static void indexOutside(Iemotohall x, String what, int least, int most, IntConsumer call) {
        for (int number : outside(least, most)) {
            index(x, what + " of " + number, () -> call.accept(number));
        }
    }

    /** Each number just outside of least to most, and far outside, is refused as an argument. */
    static void argumentOutside(Iemotohall x, String what, int least, int most, IntConsumer call) {
        for (int number : outside(least, most)) {
            argument(x, what + " of " + number, () -> call.accept(number));
        }
    }

    private static int[] outside(int least, int most) {
        return new int[] {least - 1, most + 1, most + 256, Integer.MIN_VALUE, Integer.MAX_VALUE};
    }

    static void tell(String text) {
        wrong++;
        System.out.println(sentence + text);
    }

    /** Ends the program: with 1, if something was wrong. */
    static void end(String test) {
        System.out.println(test + ": " + (wrong == 0 ? "all as due" : wrong + " not as due"));
        if (wrong != 0) {
            System.exit(1);
        }
    }

    /** The very class is asked for: what the machine throws is of classes below these. */
    private static void refused(Iemotohall x, String what, Call call, Class<?> due) {
        long before = x.digest();
        Class<?> thrown = null;
        try {
            call.make();
        } catch (RuntimeException e) {
            thrown = e.getClass();
        }
        if (thrown != due) {
            tell(what + " threw " + thrown + ", due is " + due);
        }
        if (x.digest() != before) {
            tell(what + " changed something, though it throws");
        }
    }
}
