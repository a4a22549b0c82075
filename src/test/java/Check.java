import java.util.NoSuchElementException;

/** Compares answers with those that are due, and ends the program with 1 if one was wrong. */
final class Check {
    interface Call {
        int answer();
    }

    private static int wrong = 0;

    private Check() {
    }

    static void due(String call, int got, int want) {
        if (got != want) {
            wrong++;
            System.out.println(call + " answered " + got + ", due is " + want);
        }
    }

    static void illegal(String call, Call made) {
        dueThrow(call, made, IllegalArgumentException.class);
    }

    static void noElement(String call, Call made) {
        dueThrow(call, made, NoSuchElementException.class);
    }

    static void fail(String what) {
        wrong++;
        System.out.println(what);
    }

    static void end() {
        if (wrong != 0) {
            System.out.println(wrong + " answers are not as due");
            System.exit(1);
        }
    }

    private static void dueThrow(String call, Call made, Class<? extends RuntimeException> kind) {
        try {
            int got = made.answer();
            fail(call + " answered " + got + ", due is " + kind.getSimpleName());
        } catch (RuntimeException e) {
            if (e.getClass() != kind) {
                fail(call + " threw " + e + ", due is " + kind.getSimpleName());
            }
        }
    }
}
