import java.util.function.IntSupplier;

/** Counts the answers that are not the due ones. */
final class Check {
    static final String BOUNDS = "throws.IndexOutOfBoundsException";
    static final String ARGUMENT = "throws.IllegalArgumentException";
    static final String STATE = "throws.IllegalStateException";

    private static final int MOST_SHOWN = 20;
    private String sentence = "";
    private int wrong = 0;

    /** What a call answers, or the exception that it throws, as one text. */
    static String answer(IntSupplier call) {
        try {
            return Integer.toString(call.getAsInt());
        } catch (RuntimeException e) {
            return "throws." + e.getClass().getSimpleName();
        }
    }

    /** Holds the program against one sentence of the document, whatever comes of the others. */
    void sentence(String words, Runnable test) {
        sentence = "\"" + words + "\": ";
        try {
            test.run();
        } catch (RuntimeException e) {
            same("its test", "throws." + e.getClass().getSimpleName(), "no exception");
        }
    }

    void same(String what, String got, String want) {
        if (!got.equals(want)) {
            wrong++;
            if (wrong <= MOST_SHOWN) {
                System.out.println(sentence + what + " answered " + got + ", due is " + want);
            }
        }
    }

    void is(String what, int want, IntSupplier call) {
        same(what, answer(call), Integer.toString(want));
    }

    void outOfBounds(String what, IntSupplier call) {
        same(what, answer(call), BOUNDS);
    }

    void badArgument(String what, IntSupplier call) {
        same(what, answer(call), ARGUMENT);
    }

    void badState(String what, IntSupplier call) {
        same(what, answer(call), STATE);
    }

    void finish() {
        if (wrong != 0) {
            System.out.println(wrong + " answers are not as due");
            System.exit(1);
        }
    }
}
