import java.util.function.IntSupplier;

/** Counts the answers that are not the due ones. */
final class Check {
    private static final int MOST_SHOWN = 20;
    private int wrong = 0;

    /** What a call answers, or the exception that it throws, as one text. */
    static String answer(IntSupplier call) {
        try {
            return Integer.toString(call.getAsInt());
        } catch (RuntimeException e) {
            return "throws." + e.getClass().getSimpleName();
        }
    }

    void same(String what, String got, String want) {
        if (!got.equals(want)) {
            wrong++;
            if (wrong <= MOST_SHOWN) {
                System.out.println(what + " answered " + got + ", due is " + want);
            }
        }
    }

    void is(String what, int want, IntSupplier call) {
        same(what, answer(call), Integer.toString(want));
    }

    void outOfBounds(String what, IntSupplier call) {
        same(what, answer(call), "throws.IndexOutOfBoundsException");
    }

    void badArgument(String what, IntSupplier call) {
        same(what, answer(call), "throws.IllegalArgumentException");
    }

    void badState(String what, IntSupplier call) {
        same(what, answer(call), "throws.IllegalStateException");
    }

    void finish() {
        if (wrong != 0) {
            System.out.println(wrong + " answers are not as due");
            System.exit(1);
        }
    }
}
