import java.util.function.IntSupplier;

/** Counts and prints the answers that are not as due. */
final class Check {
    static final int ISE = -1001;
    static final int IAE = -1002;
    static final int UOE = -1003;
    static final int OTHER = -1004;

    private static int asked = 0;
    private static int wrong = 0;

    private Check() {
    }

    static void due(String what, long want, long got) {
        asked++;
        if (got != want) {
            wrong++;
            System.out.println(what + " answered " + name(got) + ", due is " + name(want));
        }
    }

    static void due(String what, int want, IntSupplier call) {
        due(what, want, answer(call));
    }

    static void dueOf(String what, int want, Runnable call) {
        due(what, want, answerOf(call));
    }

    static void dueText(String what, String want, String got) {
        asked++;
        if (!got.equals(want)) {
            wrong++;
            System.out.println(what + " answered '" + got + "', due is '" + want + "'");
        }
    }

    /** The answer of a call, or a number for the exception that it throws. */
    static int answer(IntSupplier call) {
        try {
            return call.getAsInt();
        } catch (RuntimeException e) {
            return number(e);
        }
    }

    static int answerOf(Runnable call) {
        return answer(() -> {
            call.run();
            return 0;
        });
    }

    static void finish(String name) {
        System.out.println(name + ": " + asked + " answers, " + wrong + " not as due");
        if (wrong != 0 || asked == 0) {
            System.exit(1);
        }
    }

    private static int number(RuntimeException e) {
        if (e.getClass() == IllegalStateException.class) {
            return ISE;
        }
        if (e.getClass() == IllegalArgumentException.class) {
            return IAE;
        }
        return e.getClass() == UnsupportedOperationException.class ? UOE : OTHER;
    }

    private static String name(long answer) {
        if (answer == ISE) {
            return "throws.IllegalStateException";
        }
        if (answer == IAE) {
            return "throws.IllegalArgumentException";
        }
        if (answer == UOE) {
            return "throws.UnsupportedOperationException";
        }
        return answer == OTHER ? "throws another exception" : Long.toString(answer);
    }
}
