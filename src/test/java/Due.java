import java.util.NoSuchElementException;

/** What the tests expect of calls; wrong answers are printed and counted. */
final class Due {
    static final Class<NoSuchElementException> NO_SUCH = NoSuchElementException.class;
    static final Class<IllegalArgumentException> ARGUMENT = IllegalArgumentException.class;
    static final Class<IllegalStateException> STATE = IllegalStateException.class;

    interface Call {
        Object answer();
    }

    private static int calls = 0;
    private static int wrong = 0;

    private Due() {
    }

    /** What a call answers, or throws.NameOfTheException. */
    static String outcome(Call call) {
        try {
            return String.valueOf(call.answer());
        } catch (RuntimeException e) {
            return "throws." + e.getClass().getName();
        }
    }

    static void same(String what, Object want, Call call) {
        compare(what, String.valueOf(want), outcome(call));
    }

    static void fails(String what, Class<? extends RuntimeException> want, Call call) {
        compare(what, "throws." + want.getName(), outcome(call));
    }

    static void compare(String what, String want, String got) {
        calls++;
        if (!want.equals(got)) {
            wrong++;
            System.out.println(what + " answered " + got + ", due is " + want);
        }
    }

    /** Ends a test; a test that compared nothing has failed too. */
    static void end() {
        System.out.println(calls + " answers compared, " + wrong + " wrong");
        if (wrong != 0 || calls == 0) {
            System.exit(1);
        }
    }
}
