/** Counts the answers that are not the ones that are due, and ends a test with exit code 1 if there was one. */
final class Due {
    private static final int PRINTED_MOST = 40;
    private int wrong = 0;

    void is(String call, long want, long got) {
        if (got != want) {
            wrong++;
            if (wrong <= PRINTED_MOST) {
                System.out.println(call + " answered " + got + ", due is " + want);
            }
        }
    }

    void yes(String call, boolean got) {
        is(call, 1, got ? 1 : 0);
    }

    void no(String call, boolean got) {
        is(call, 0, got ? 1 : 0);
    }

    boolean hasWrong() {
        return wrong != 0;
    }

    void end() {
        System.out.println(wrong == 0 ? "all answers are as due" : wrong + " answers are not as due");
        if (wrong != 0) {
            System.exit(1);
        }
    }
}
