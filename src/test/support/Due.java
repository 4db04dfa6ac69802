import java.util.function.IntSupplier;

/** Compares answers with those that are due, and tells at the end how many were not. */
final class Due {
    static final int INDEX = 1_000_000_001;
    static final int STATE = 1_000_000_002;

    private int asked = 0;
    private int wrong = 0;

    /** What a call answers, or INDEX or STATE for what it throws. */
    static int answer(IntSupplier call) {
        try {
            return call.getAsInt();
        } catch (RuntimeException e) {
            // The very class: the machine's own ArrayIndexOutOfBoundsException is not due anywhere.
            if (e.getClass() == IndexOutOfBoundsException.class) {
                return INDEX;
            }
            if (e.getClass() == IllegalStateException.class) {
                return STATE;
            }
            throw e;
        }
    }

    void is(String what, IntSupplier call, int want) {
        asked++;
        int got = answer(call);
        if (got != want) {
            wrong++;
            System.out.println(what + " answered " + told(got) + ", due is " + told(want));
        }
    }

    private static String told(int answer) {
        return answer == INDEX ? "throws IndexOutOfBoundsException"
                : answer == STATE ? "throws IllegalStateException" : Integer.toString(answer);
    }

    void end(String test) {
        System.out.println(test + ": " + asked + " answers, " + wrong + " not as due");
        if (wrong != 0) {
            System.exit(1);
        }
    }
}
