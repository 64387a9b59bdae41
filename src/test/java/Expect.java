/** Counts the answers of one test that are not the ones that are due, and tells them. */
final class Expect {
    interface Call {
        long answer();
    }

    private int wrong;

    /** The call answers this number. */
    void is(long want, String call, Call made) {
        tell(call, String.valueOf(want), outcome(made));
    }

    /** The call throws just this exception. */
    void fails(Class<? extends RuntimeException> want, String call, Call made) {
        tell(call, want.getSimpleName(), outcome(made));
    }

    void tell(String call, String want, String got) {
        if (!want.equals(got)) {
            wrong++;
            System.out.println(call + " answered " + got + ", due is " + want);
        }
    }

    /** What came of a call: its number, or the name of what it threw. */
    static String outcome(Call made) {
        try {
            return String.valueOf(made.answer());
        } catch (RuntimeException e) {
            return e.getClass().getSimpleName();
        }
    }

    /** Ends the program as the tests under ../shared/tests do: with 1 if an answer was wrong. */
    void end() {
        System.out.println(wrong == 0 ? "all answers are as due" : wrong + " answers are not as due");
        if (wrong != 0) {
            System.exit(1);
        }
    }
}
