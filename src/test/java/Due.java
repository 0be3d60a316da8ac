/** Counts the answers of one test class and tells those that are not as due. */
final class Due {
    interface Call {
        long answer();
    }

    interface NumberCall {
        long answer(int n);
    }

    interface BoardCall {
        long answer(CreepBoard x);
    }

    static final String ARGUMENT = "throws.IllegalArgumentException";
    static final String STATE = "throws.IllegalStateException";

    private int asked = 0;
    private int wrong = 0;

    /** A call that answers. */
    void is(String what, long want, Call call) {
        compare(what, Long.toString(want), outcome(call));
    }

    /** A call that throws IllegalArgumentException. */
    void refusesArgument(String what, Call call) {
        compare(what, ARGUMENT, outcome(call));
    }

    /** A call that throws IllegalStateException. */
    void refusesState(String what, Call call) {
        compare(what, STATE, outcome(call));
    }

    /** The last numbers that are taken at both ends and their answers; one beyond them, and the farthest ints, are not. */
    void range(String what, int from, long atFrom, int to, long atTo, String refusal, NumberCall call) {
        compare(what + " " + from + ", the least", Long.toString(atFrom), outcome(() -> call.answer(from)));
        compare(what + " " + to + ", the greatest", Long.toString(atTo), outcome(() -> call.answer(to)));
        for (int n : new int[] {from - 1, to + 1, Integer.MIN_VALUE, Integer.MAX_VALUE}) {
            compare(what + " " + n + ", beyond", refusal, outcome(() -> call.answer(n)));
        }
    }

    void compare(String what, String want, String got) {
        asked++;
        if (!want.equals(got)) {
            wrong++;
            System.out.println(what + " answered " + got + ", due is " + want);
        }
    }

    /** What a call answers, or the exact class of what it throws. */
    static String outcome(Call call) {
        try {
            return Long.toString(call.answer());
        } catch (RuntimeException e) {
            return "throws." + e.getClass().getSimpleName();
        }
    }

    void end() {
        System.out.println(asked + " answers, " + wrong + " not as due");
        if (wrong != 0 || asked == 0) {
            System.exit(1);
        }
    }
}
