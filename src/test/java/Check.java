import java.util.NoSuchElementException;

/** Counts answers that are not as due; a test ends with exit code 1 if there was one. */
final class Check {
    private static final int MOST_TOLD = 40;

    private final String test;
    private int asked;
    private int wrong;

    Check(String test) {
        this.test = test;
    }

    void due(String what, long got, long want) {
        tell(got == want, what, got, want);
    }

    void due(String what, boolean got, boolean want) {
        tell(got == want, what, got, want);
    }

    void due(String what, String got, String want) {
        tell(got.equals(want), what, got, want);
    }

    private void tell(boolean isDue, String what, Object got, Object want) {
        asked++;
        if (!isDue) {
            wrong++;
            if (wrong <= MOST_TOLD) {
                System.out.println(test + ": " + what + " answered " + got + ", due is " + want);
            }
        }
    }

    /** A call with what it throws told as a number that is no answer. */
    interface Call {
        int ask();
    }

    static final long OUTSIDE = 1L << 40;
    static final long NO_ELEMENT = 1L << 41;

    static long answerOf(Call call) {
        try {
            return call.ask();
        } catch (IndexOutOfBoundsException e) {
            // the machine's own ones are of classes below this one
            return e.getClass() == IndexOutOfBoundsException.class ? OUTSIDE : -OUTSIDE;
        } catch (NoSuchElementException e) {
            return NO_ELEMENT;
        }
    }

    int askedOnes() {
        return asked;
    }

    int wrongOnes() {
        return wrong;
    }

    void end() {
        System.out.println(test + ": " + asked + " answers, " + wrong + " not as due");
        if (wrong != 0 || asked == 0) {
            System.exit(1);
        }
    }
}
