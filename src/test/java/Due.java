/** Counts the answers of one test class and tells those that are not as due. */
final class Due {
    interface Call {
        long answer();
    }

    private int asked = 0;
    private int wrong = 0;

    /** A call that answers. */
    void is(String what, long want, Call call) {
        compare(what, Long.toString(want), outcome(call));
    }

    /** A call that throws IllegalArgumentException. */
    void refusesArgument(String what, Call call) {
        compare(what, "throws.IllegalArgumentException", outcome(call));
    }

    /** A call that throws IllegalStateException. */
    void refusesState(String what, Call call) {
        compare(what, "throws.IllegalStateException", outcome(call));
    }

    void compare(String what, String want, String got) {
        asked++;
        if (!want.equals(got)) {
            wrong++;
            System.out.println(what + " answered " + got + ", due is " + want);
        }
    }

    /** What a call answers, or the exact class of what it throws. */
    static String outcome(Call call) {
        try {
            return Long.toString(call.answer());
        } catch (RuntimeException e) {
            return "throws." + e.getClass().getSimpleName();
        }
    }

    void end() {
        System.out.println(asked + " answers, " + wrong + " not as due");
        if (wrong != 0 || asked == 0) {
            System.exit(1);
        }
    }
}
