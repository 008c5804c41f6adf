/** Promise 10: queue. */
public final class Promise10QueueTest {
    @Sentence(promise = 10, says = "Transaction k of a node's queue, from 0; how many it has if k is -1.")
    static void transactionK(Due due) {
        Play x = new Play(due, 5).submit(1, 255, 1, 128).submit(3, 2);
        x.onlyAnswers(3).queue(1, -1);
        x.onlyAnswers(255).queue(1, 0);
        x.onlyAnswers(1).queue(1, 1);
        x.onlyAnswers(128).queue(1, 2);
        x.onlyAnswers(1).queue(3, -1);
        x.onlyAnswers(2).queue(3, 0);
        x.onlyAnswers(0).queue(0, -1);
        x.onlyAnswers(0).queue(2, -1);
    }

    @Sentence(promise = 10, says = "NONE if there is none: no such k.")
    static void noSuchK(Due due) {
        Play x = new Play(due, 5).submit(1, 255, 1, 128);
        x.refuses().queue(1, 3);
        x.refuses().queue(1, -2);
        for (int k : Play.outside(-1, 2)) {
            x.refuses().queue(1, k);
        }
    }

    @Sentence(promise = 10, says = "NONE if there is none: an empty queue has none, but -1 tells 0.")
    static void emptyQueue(Due due) {
        Play x = new Play(due, 5);
        for (int node = 0; node < 4; node++) {
            x.onlyAnswers(0).queue(node, -1);
            for (int k : Play.outside(-1, -1)) {
                x.refuses().queue(node, k);
            }
        }
    }

    @Sentence(promise = 10, says = "NONE if there is none: a full queue has the transactions 0 .. 11. Terms: at most 12.")
    static void fullQueue(Due due) {
        Play x = new Play(due, 5).submit(2, 12, 11, 10, 9, 8, 7, 6, 5, 4, 3, 2, 1);
        x.onlyAnswers(12).queue(2, -1);
        x.onlyAnswers(12).queue(2, 0);
        x.onlyAnswers(1).queue(2, 11);
        x.refuses().queue(2, 12);
    }

    @Sentence(promise = 10, says = "NONE if there is none: no such node. Terms: NODES are 0 .. 3.")
    static void noSuchNode(Due due) {
        Play x = new Play(due, 5).submit(0, 1, 2).submit(3, 1, 2);
        for (int node : Play.outside(0, 3)) {
            x.refuses().queue(node, -1);
            x.refuses().queue(node, 0);
            x.refuses().queue(node, 1);
            x.refuses().queue(node, 2);
        }
    }

    @Sentence(promise = 10,
        says = "Terms: all transactions that are not in its ledger come to its end, and out of its queue.")
    static void outOfTheQueue(Due due) {
        Play x = new Play(due, Seeds.ALL_ONE).submit(0, 5, 6, 7).submit(1, 6, 8, 5, 9, 7).submit(2, 1, 2, 3, 6, 4, 8);
        x.begin(0, 1, 2, 3);
        x.hasQueue(0, 5, 6, 7);
        x.flow((node, m) -> m.epoch == 0);
        x.hasLedger(0, 1, 2, 5, 6, 8);
        x.hasQueue(0, 7);
        x.hasQueue(1, 9, 7);
        x.hasQueue(2, 3, 4);
        x.hasQueue(3);
    }

    @Sentence(promise = 10, says = "Terms: out of its queue: those submitted meanwhile, too.")
    static void submittedMeanwhile(Due due) {
        Play x = new Play(due, Seeds.ALL_ONE).submit(0, 5).begin(0, 1, 2, 3);
        x.submit(1, 4, 5, 6);
        x.flow((node, m) -> m.epoch == 0);
        x.hasLedger(1, 5);
        x.hasQueue(1, 4, 6);
    }

    /** Node 1 comes into epoch 1 with the queue 4, 6, so that this is its proposal there. */
    @Sentence(promise = 10,
        says = "Terms: TO BE IN AN EPOCH anew: the first two transactions of its queue, behind the commit.")
    static void proposalBehindTheCommit(Due due) {
        Play x = new Play(due, Seeds.ALL_ONE).submit(0, 5).begin(0, 1, 2, 3);
        x.submit(1, 4, 5, 6);
        x.flow((node, m) -> m.epoch == 0);
        x.flow((node, m) -> m.epoch == 1 && m.kind <= Scenes.READY);
        x.gives(4 + 256 * 6).instance(0, 1, 1);
        x.gives(0).instance(0, 0, 1);
    }

    public static void main(String[] args) throws IllegalAccessException {
        Sentences.test(Promise10QueueTest.class);
    }
}
