/** Promise 13: coin. */
public final class Promise13CoinTest {
    @Sentence(promise = 13,
        says = "The coin of an epoch, an instance and a round. Terms: bit (e * 24 + j * 6 + r) modulo 31 of h.")
    static void allCoins(Due due) {
        // 668265263 is 27D4EB2F, so that h is 27D4A486: its bits, the lowest first.
        String bits = "01100001001001010010101111100100";
        Play x = new Play(due, 1);
        for (int epoch = 0; epoch < 4; epoch++) {
            for (int instance = 0; instance < 4; instance++) {
                for (int round = 0; round < 6; round++) {
                    x.gives(bits.charAt((epoch * 24 + instance * 6 + round) % 31) - '0').coin(epoch, instance, round);
                }
            }
        }
    }

    /** With h = 80000000 bit 31 alone is set, with h = 40000000 bit 30, with h = 1 bit 0. */
    @Sentence(promise = 13, says = "Terms: modulo 31: behind bit 30 comes bit 0, and bit 31 is never asked.")
    static void behindBit30(Due due) {
        int[][] seedsOfBits = {{seedOf(31), 0, 0}, {seedOf(30), 1, 0}, {seedOf(0), 0, 1}};
        for (int[] row : seedsOfBits) {
            Play x = new Play(due, row[0]);
            x.gives(row[1]).coin(1, 1, 0);
            x.gives(row[2]).coin(1, 1, 1);
            x.gives(row[2]).coin(0, 0, 0);
            x.gives(row[1]).coin(2, 2, 1);
            x.gives(row[2]).coin(2, 2, 2);
            x.gives(row[1]).coin(3, 3, 2);
            x.gives(row[2]).coin(3, 3, 3);
            x.gives(0).coin(3, 3, 5);
        }
    }

    private static int seedOf(int bit) {
        return Seeds.with("0".repeat(bit) + "1");
    }

    @Sentence(promise = 13, says = "Terms: bit (e * 24 + j * 6 + r) modulo 31 of h: each bit of h alone.")
    static void oneBit(Due due) {
        for (int bit = 0; bit < 31; bit++) {
            Play x = new Play(due, seedOf(bit));
            for (int k = 0; k < 96; k++) {
                x.gives(k % 31 == bit ? 1 : 0).coin(k / 24, k % 24 / 6, k % 6);
            }
        }
    }

    @Sentence(promise = 13, says = "Terms: h = SEED * 668265263, then h exclusive-or (h >>> 15): of a negative h, too.")
    static void negativeSeed(Due due) {
        // The product is D82B14D1, so that h is D82AA487; with the sign drawn in, bit 17 would be another.
        String bits = "1110000100100101010101000001101";
        Play x = new Play(due, -1);
        for (int k = 0; k < 31; k++) {
            x.gives(bits.charAt(k) - '0').coin(k / 24, k % 24 / 6, k % 6);
        }
    }

    @Sentence(promise = 13, says = "NONE if the epoch is none. Terms: EPOCHS are 0 .. 3.")
    static void noSuchEpoch(Due due) {
        Play x = new Play(due, Seeds.ALL_ONE).begin(0);
        for (int epoch : Play.outside(0, 3)) {
            x.refuses().coin(epoch, 0, 0);
            x.refuses().coin(epoch, 3, 5);
        }
        x.onlyAnswers(1).coin(0, 0, 0);
        x.onlyAnswers(1).coin(3, 0, 0);
    }

    @Sentence(promise = 13, says = "NONE if the instance is none. Terms: NODES are 0 .. 3.")
    static void noSuchInstance(Due due) {
        Play x = new Play(due, Seeds.ALL_ONE).begin(0);
        for (int instance : Play.outside(0, 3)) {
            x.refuses().coin(0, instance, 0);
            x.refuses().coin(3, instance, 5);
        }
        x.onlyAnswers(1).coin(0, 3, 0);
    }

    @Sentence(promise = 13, says = "NONE if the round is none. Terms: ROUNDS 0 .. 5.")
    static void noSuchRound(Due due) {
        Play x = new Play(due, Seeds.ALL_ONE).begin(0);
        for (int round : Play.outside(0, 5)) {
            x.refuses().coin(0, 0, round);
            x.refuses().coin(3, 3, round);
        }
        x.onlyAnswers(1).coin(0, 0, 5);
    }

    @Sentence(promise = 13, says = "The coin of an epoch, an instance and a round: the same whatever has been done.")
    static void theSameAlways(Due due) {
        Play x = new Play(due, 1).betray();
        x.flow((node, m) -> true);
        x.onlyAnswers(0).coin(0, 0, 0);
        x.onlyAnswers(1).coin(0, 0, 1);
        x.onlyAnswers(1).coin(3, 3, 5);
    }

    public static void main(String[] args) throws IllegalAccessException {
        Sentences.test(Promise13CoinTest.class);
    }
}
