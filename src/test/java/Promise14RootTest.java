/** Promise 14: root. All roots were worked out apart from any Java. */
public final class Promise14RootTest {
    /** Of root(p, q) * (p + 1) modulo 1000003 (with its sign), times q + 1, over all p and q. */
    private static final long SUM = -6059933114L;

    private static final int LARGEST = Integer.MAX_VALUE;
    private static final int LEAST = Integer.MIN_VALUE;

    private static void roots(Due due, int[]... rows) {
        Play x = new Play(due, 5);
        for (int[] row : rows) {
            x.onlyAnswers(row[2]).root(row[0], row[1]);
        }
    }

    @Sentence(promise = 14, says = "The root of the proposal p, q.")
    static void ordinary(Due due) {
        roots(due, new int[] {7, 9, -1015360852}, new int[] {10, 20, -684694265}, new int[] {128, 1, -958169993});
    }

    @Sentence(promise = 14, says = "The root of the proposal p, q: the least and the largest bytes.")
    static void leastAndLargest(Due due) {
        roots(due, new int[] {0, 0, 1688284447}, new int[] {255, 0, 2025176572}, new int[] {0, 255, 1522252457},
            new int[] {255, 255, 1859144582}, new int[] {0, 1, 139573994});
    }

    @Sentence(promise = 14, says = "(their lowest eight bits).")
    static void lowestEightBits(Due due) {
        roots(due, new int[] {256, 0, 1688284447}, new int[] {0, 256, 1688284447}, new int[] {-1, 0, 2025176572},
            new int[] {0, -1, 1522252457}, new int[] {7 + 256, 9 - 256, -1015360852},
            new int[] {7 - 65536, 9 + 65536, -1015360852}, new int[] {LARGEST, LARGEST, 1859144582},
            new int[] {LEAST, LEAST, 1688284447}, new int[] {LEAST, LARGEST, 1522252457},
            new int[] {LARGEST, LEAST, 2025176572}, new int[] {LEAST + 10, LEAST + 20, -684694265});
    }

    /** p + q is 127 (twice that is 254), and 128 (twice that is 27). */
    @Sentence(promise = 14,
        says = "Terms: times 2 twice the byte, and with 27 exclusive-ored and only the lowest eight bits if it was above 127.")
    static void timesTwo(Due due) {
        roots(due, new int[] {0, 63, 1070060792}, new int[] {0, 64, 1856691423}, new int[] {0, 127, 111928376},
            new int[] {0, 128, -241636926}, new int[] {0, 129, 538598391}, new int[] {0, 254, -692935664},
            new int[] {127, 0, 637301741}, new int[] {128, 0, -647886270}, new int[] {128, 127, -926164183},
            new int[] {128, 255, -1384840008}, new int[] {127, 255, -99651997});
    }

    /** The bytes 0, 1, 2, 3 have the leaves 0, 226, 196, 166, the bytes 255, 255, 255, 255 the leaves 89, 148, 207, 10. */
    @Sentence(promise = 14, says = "Terms: LEAF k of a byte x is (x * 167 + 59 * k) modulo 256.")
    static void leaves(Due due) {
        roots(due, new int[] {0, 0, 1688284447}, new int[] {0, 1, 139573994}, new int[] {255, 255, 1859144582},
            new int[] {1, 255, 289046903});
    }

    /** The bytes 0, 64, 128, 192 have the leaves 246 and 241, whose half needs more than an int before it is cut. */
    @Sentence(promise = 14, says = "Terms: a HALF of two leaves is modulo 65536: of numbers beyond an int, too.")
    static void largeHalves(Due due) {
        roots(due, new int[] {0, 64, 1856691423}, new int[] {0, 255, 1522252457}, new int[] {127, 0, 637301741},
            new int[] {127, 255, -99651997});
    }

    @Sentence(promise = 14, says = "Terms: the ROOT of two halves (as an int, it wraps).")
    static void wraps(Due due) {
        roots(due, new int[] {0, 0, 1688284447}, new int[] {0, 128, -241636926}, new int[] {1, 255, 289046903});
    }

    @Sentence(promise = 14, says = "The root of the proposal: all of them, by the sum of their roots.")
    static void allProposals(Due due) {
        long sum = 0;
        for (int p = 0; p < 256; p++) {
            EpochLedger x = new EpochLedger(p);
            for (int q = 0; q < 256; q++) {
                sum += (long) x.root(p, q) * (p + 1) % 1000003 * (q + 1);
            }
        }
        due.is("the sum of all roots, each times its place", SUM, sum);
    }

    public static void main(String[] args) throws IllegalAccessException {
        Sentences.test(Promise14RootTest.class);
    }
}
