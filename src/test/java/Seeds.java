/** Seeds for coins that a test needs. */
final class Seeds {
    static final int ALL_ZERO = with("");
    static final int ALL_ONE = with("111111 111111 111111 111111 1111111");

    private Seeds() {
    }

    /** The seed whose bit k of h is the k-th figure; blanks do not count, and figures that are missing are 0. */
    static int with(String coins) {
        String figures = coins.replace(" ", "");
        int h = 0;
        for (int k = 0; k < figures.length(); k++) {
            h |= (figures.charAt(k) - '0') << k;
        }
        int mixed = h ^ h >>> 15 ^ h >>> 30;
        int inverse = 1;
        for (int i = 0; i < 5; i++) {
            inverse *= 2 - 668265263 * inverse;
        }
        return mixed * inverse;
    }
}
