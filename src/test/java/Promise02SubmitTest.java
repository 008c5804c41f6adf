/** Promise 2: submit. */
public final class Promise02SubmitTest {
    private static final int[] TWELVE = {1, 255, 128, 127, 2, 254, 64, 63, 32, 31, 16, 15};

    @Sentence(promise = 2, says = "A transaction comes to the end of a node's queue: true.")
    static void comesToTheEnd(Due due) {
        Play x = new Play(due, 5).submit(0, 200, 3, 100).submit(3, 3);
        x.hasQueue(0, 200, 3, 100);
        x.hasQueue(1);
        x.hasQueue(2);
        x.hasQueue(3, 3);
        x.gives(0).waiting(0);
    }

    @Sentence(promise = 2, says = "False if there is no such node. Terms: NODES are 0 .. 3.")
    static void noSuchNode(Due due) {
        Play x = new Play(due, 5).submit(1, 9);
        for (int node : Play.outside(0, 3)) {
            x.refuses().submit(node, 1);
            x.refuses().submit(node, 255);
        }
        x.submit(0, 1).submit(3, 1);
    }

    @Sentence(promise = 2, says = "False if it is none. Terms: A TRANSACTION is a number 1 .. 255.")
    static void noTransaction(Due due) {
        Play x = new Play(due, 5).submit(1, 9);
        for (int transaction : Play.outside(1, 255)) {
            for (int node = 0; node < 4; node++) {
                x.refuses().submit(node, transaction);
            }
        }
        x.refuses().submit(0, 0);
        x.refuses().submit(0, 256);
        for (int node = 0; node < 4; node++) {
            x.submit(node, 255, 1);
            x.refuses().submit(node, 0);
        }
    }

    @Sentence(promise = 2, says = "False if the queue has 12. Terms: a QUEUE of transactions, at most 12.")
    static void the13th(Due due) {
        for (int node = 0; node < 4; node++) {
            Play x = new Play(due, 5).submit(node, TWELVE);
            x.hasQueue(node, TWELVE);
            x.refuses().submit(node, 14);
            x.refuses().submit(node, 200);
            x.submit((node + 1) % 4, 14);
        }
    }

    @Sentence(promise = 2, says = "False if the queue has 12: true again when transactions came out of it.")
    static void roomAgain(Due due) {
        Play x = new Play(due, Seeds.ALL_ONE).submit(0, TWELVE).begin(0, 1, 2, 3);
        x.flow((node, m) -> m.epoch == 0 && x.does().epoch(0) == 0);
        x.gives(1).epoch(0);
        x.gives(10).queue(0, -1);
        x.submit(0, 14, 13);
        x.gives(12).queue(0, -1);
        x.refuses().submit(0, 12);
    }

    @Sentence(promise = 2, says = "False if it is in the queue already.")
    static void inTheQueue(Due due) {
        Play x = new Play(due, 5).submit(2, 255, 7, 1);
        x.refuses().submit(2, 255);
        x.refuses().submit(2, 7);
        x.refuses().submit(2, 1);
        x.submit(1, 7);
        x.hasQueue(1, 7);
    }

    @Sentence(promise = 2, says = "False if it is in the ledger already.")
    static void inTheLedger(Due due) {
        Play x = new Play(due, Seeds.ALL_ONE).submit(0, 255, 9).submit(1, 1).begin(0, 1, 2, 3);
        x.flow((node, m) -> m.epoch == 0);
        for (int node = 0; node < 4; node++) {
            x.hasLedger(node, 1, 9, 255);
            x.hasQueue(node);
            x.refuses().submit(node, 1);
            x.refuses().submit(node, 9);
            x.refuses().submit(node, 255);
            x.submit(node, 2);
        }
    }

    @Sentence(promise = 2, says = "False if it is in the ledger already: of a node that is over, too.")
    static void inTheLedgerOfOneThatIsOver(Due due) {
        Play x = new Play(due, Seeds.ALL_ONE).submit(0, 255, 9).begin(0, 1, 2, 3);
        x.flow((node, m) -> true);
        for (int node = 0; node < 4; node++) {
            x.gives(4).epoch(node);
            x.refuses().submit(node, 255);
            x.refuses().submit(node, 9);
            x.submit(node, 8);
            x.refuses().submit(node, 8);
            x.hasQueue(node, 8);
        }
    }

    /** Node 1 is idle, so that its proposal is refused and it commits nothing. */
    @Sentence(promise = 2, says = "False if it is in the ledger already: that of the node, not of another one.")
    static void inAnotherLedger(Due due) {
        Play x = new Play(due, Seeds.with("111111 000000 111111 111111 1111111")).submit(0, 9).begin(0, 2, 3);
        x.flow((node, m) -> node != 1 && m.epoch == 0);
        x.hasLedger(0, 9);
        x.refuses().submit(0, 9);
        x.hasLedger(1);
        x.submit(1, 9);
        x.hasQueue(1, 9);
    }

    @Sentence(promise = 2,
        says = "A transaction comes to the end of a node's queue: true: of one that is idle, in an epoch, or the traitor.")
    static void anyStateOfTheNode(Due due) {
        Play x = new Play(due, 5).submit(3, 1).begin(0);
        x.submit(0, 1, 2).yes().betray();
        x.submit(3, 2, 3);
        x.hasQueue(3, 1, 2, 3);
        x.refuses().submit(3, 3);
    }

    public static void main(String[] args) throws IllegalAccessException {
        Sentences.test(Promise02SubmitTest.class);
    }
}
