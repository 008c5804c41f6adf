/** Counts the answers that are not the ones that are due, and ends a test with exit code 1 if there was one. */
final class Due {
    private static final int PRINTED_MOST = 40;
    private String test = "";
    private int wrong = 0;

    /** What is counted from here on is printed with this name. */
    void under(String name) {
        test = name + ": ";
    }

    void is(String call, long want, long got) {
        if (got != want) {
            fault(call + " answered " + got + ", due is " + want);
        }
    }

    void yes(String call, boolean got) {
        is(call, 1, got ? 1 : 0);
    }

    void no(String call, boolean got) {
        is(call, 0, got ? 1 : 0);
    }

    void fault(String text) {
        wrong++;
        if (wrong <= PRINTED_MOST) {
            System.out.println(test + text);
        }
    }

    boolean hasWrong() {
        return wrong != 0;
    }

    void end() {
        System.out.println(wrong == 0 ? "all answers are as due" : wrong + " answers are not as due");
        if (wrong != 0) {
            System.exit(1);
        }
    }
}
