/** Promise 1: A new object. */
public final class Promise01NewObjectTest {
    /** Seeds, and bits 0 to 30 of their h, worked out apart from any Java. */
    private static final int[] SEEDS = {0, 1, -1, 2, Integer.MAX_VALUE, Integer.MIN_VALUE, Integer.MIN_VALUE + 1, 668265263};
    private static final String[] COINS = {
        "0000000000000000000000000000000", "0110000100100101001010111110010", "1110000100100101010101000001101",
        "1011000010010010100101011111001", "1110000100100101110101000001101", "0000000000000000100000000000000",
        "0110000100100101101010111110010", "1111011010110000011001111111010"};

    @Sentence(promise = 1, says = "SEED is seed.")
    static void anySeed(Due due) {
        for (int i = 0; i < SEEDS.length; i++) {
            Play x = new Play(due, SEEDS[i]);
            for (int k = 0; k < 31; k++) {
                x.gives(COINS[i].charAt(k) - '0').coin(k / 24, k % 24 / 6, k % 6);
            }
        }
    }

    @Sentence(promise = 1, says = "All nodes are idle.")
    static void allIdle(Due due) {
        for (int seed : SEEDS) {
            Play x = new Play(due, seed);
            for (int node = 0; node < 4; node++) {
                x.gives(-1).epoch(node);
                for (int instance = 0; instance < 4; instance++) {
                    x.shows(node, instance, -1, -1, -1, -1, -1, -1, -1);
                }
            }
            x.begin(3, 2, 1, 0);
        }
    }

    @Sentence(promise = 1, says = "Terms: A node has a QUEUE of transactions, and a LEDGER of them, at first empty.")
    static void emptyRows(Due due) {
        Play x = new Play(due, 7);
        for (int node = 0; node < 4; node++) {
            x.hasQueue(node);
            x.hasLedger(node);
        }
    }

    @Sentence(promise = 1, says = "All nodes are idle: none has sent anything.")
    static void nothingSent(Due due) {
        Play x = new Play(due, 7);
        for (int node = 0; node < 4; node++) {
            x.gives(0).waiting(node);
            x.onlyAnswers(0).run(node, 60);
            x.refuses().deliver(node, 0);
        }
    }

    @Sentence(promise = 1, says = "Terms: Node 3 can become a TRAITOR.")
    static void noTraitorYet(Due due) {
        Play x = new Play(due, 7);
        x.refuses().speak(0, 0, 3, 2, 0, 0);
        x.yes().betray();
    }

    @Sentence(promise = 1, says = "An object is used for at most 512 calls after it has been made.")
    static void the512thCall(Due due) {
        used(due).yes().submit(0, 255);
        used(due).yes().begin(0);
        used(due).gives(60).run(1, 60);
        used(due).gives(2).deliver(1, 299);
        used(due).gives(0).betray();
        used(due).gives(0).speak(1, 0, 3, 2, 0, 0);
        used(due).gives(-1).epoch(1);
        used(due).gives(0).ledger(1, -1);
        used(due).gives(11).queue(0, 10);
        used(due).gives(300).waiting(1);
        used(due).gives(0).instance(2, 3, 0);
        used(due).gives(1).coin(0, 0, 1);
        used(due).gives(1688284447).root(0, 0);
    }

    /** An object behind 511 calls, among them as many messages of the traitor as there can be. */
    private static Play used(Due due) {
        Play x = new Play(due, 1).submit(0, 1, 2, 3, 4, 5, 6, 7, 8, 9, 10, 11);
        x.yes().betray();
        x.begin(2);
        x.gives(1).run(1, 1);
        for (int i = 0; i < 300; i++) {
            x.yes().speak(1, i % 4, 3, 2, i, 0);
        }
        for (int i = 11 + 1 + 1 + 1 + 300; i < Play.CALLS_MOST - 1; i++) {
            x.gives(-1).epoch(0);
        }
        return x;
    }

    @Sentence(promise = 1, says = "All nodes are idle: whatever was done to another object.")
    static void objectsApart(Due due) {
        Play x = new Play(due, 1).submit(0, 7).submit(3, 8).betray();
        x.yes().speak(0, 0, 3, 2, 0, 0);
        Play y = new Play(due, 2);
        for (int node = 0; node < 4; node++) {
            y.gives(-1).epoch(node);
            y.gives(0).waiting(node);
            y.hasQueue(node);
        }
        y.refuses().speak(0, 0, 3, 2, 0, 0);
        y.gives(1).coin(0, 0, 0);
        x.gives(0).coin(0, 0, 0);
        x.gives(4).waiting(0);
    }

    public static void main(String[] args) throws IllegalAccessException {
        Sentences.test(Promise01NewObjectTest.class);
    }
}
