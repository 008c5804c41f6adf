/** Promise 3: begin. */
public final class Promise03BeginTest {
    @Sentence(promise = 3, says = "An idle node begins: it is in epoch 0: true.")
    static void begins(Due due) {
        for (int node = 0; node < 4; node++) {
            Play x = new Play(due, 5).begin(node);
            for (int other = 0; other < 4; other++) {
                x.gives(other == node ? 0 : -1).epoch(other);
                x.gives(1).waiting(other);
                x.shows(node, other, 0, -1, -1, -1, -1, 0, 0);
            }
        }
    }

    @Sentence(promise = 3, says = "False if there is no such node. Terms: NODES are 0 .. 3.")
    static void noSuchNode(Due due) {
        Play x = new Play(due, 5).submit(0, 9);
        for (int node : Play.outside(0, 3)) {
            x.refuses().begin(node);
        }
        x.begin(0);
        for (int node : Play.outside(0, 3)) {
            x.refuses().begin(node);
        }
        x.begin(3);
    }

    @Sentence(promise = 3, says = "False if it is not idle: in epoch 0.")
    static void notIdle(Due due) {
        for (int node = 0; node < 4; node++) {
            Play x = new Play(due, 5).submit(node, 9).begin(node);
            x.refuses().begin(node);
            x.gives(2).run(node, 60);
            x.refuses().begin(node);
        }
    }

    @Sentence(promise = 3, says = "False if it is not idle: in a later epoch, the last one, or over.")
    static void notIdleLater(Due due) {
        Play x = new Play(due, Seeds.ALL_ONE).submit(0, 9).begin(0, 1, 2, 3);
        for (int epoch = 1; epoch <= 4; epoch++) {
            int before = epoch;
            x.flow((node, m) -> m.epoch < before);
            for (int node = 0; node < 4; node++) {
                x.gives(epoch).epoch(node);
                x.refuses().begin(node);
            }
        }
    }

    @Sentence(promise = 3, says = "False if it is the traitor.")
    static void theTraitor(Due due) {
        Play x = new Play(due, 5).submit(3, 9);
        x.yes().betray();
        x.refuses().begin(3);
        x.gives(-1).epoch(3);
        x.begin(0, 1, 2);
        x.refuses().begin(3);
    }

    @Sentence(promise = 3, says = "False if it is the traitor: one who was in an epoch already.")
    static void theTraitorInAnEpoch(Due due) {
        Play x = new Play(due, 5).begin(3);
        x.yes().betray();
        x.refuses().begin(3);
        x.gives(0).epoch(3);
    }

    @Sentence(promise = 3, says = "Terms: the first two transactions of its queue (0 for those that are not there).")
    static void proposals(Due due) {
        int[][] queues = {{}, {255}, {1}, {255, 1}, {1, 255}, {7, 8, 9}};
        int[] want = {0, 255, 1, 255 + 256, 1 + 256 * 255, 7 + 256 * 8};
        for (int i = 0; i < queues.length; i++) {
            for (int proposer = 0; proposer < 4; proposer++) {
                Play x = new Play(due, Seeds.ALL_ZERO).submit(proposer, queues[i]);
                x.begin(proposer, (proposer + 1) % 4, (proposer + 2) % 4);
                int about = proposer;
                x.flow((node, m) -> m.instance == about && m.kind <= LedgerModel.READY);
                x.gives(want[i]).instance(proposer, proposer, 1);
                x.gives(want[i]).instance((proposer + 1) % 4, proposer, 1);
                x.gives(queues[i].length).queue(proposer, -1);
            }
        }
    }

    @Sentence(promise = 3, says = "Terms: the first two transactions of its queue: as it was when the node began.")
    static void submittedTooLate(Due due) {
        Play x = new Play(due, Seeds.ALL_ZERO).submit(0, 7).begin(0, 1, 2);
        x.submit(0, 8);
        x.flow((node, m) -> m.instance == 0 && m.kind <= LedgerModel.READY);
        x.gives(7).instance(1, 0, 1);
        x.hasQueue(0, 7, 8);
    }

    /** The VALUEs of 1 and 0 reach the idle node 2 in this order, but its ECHOs are sent in the order 0, 1. */
    @Sentence(promise = 3, says = "Terms: the node sends a VALUE; then it goes on with the instances 0 .. 3 in this order.")
    static void goesOnInOrder(Due due) {
        Play x = new Play(due, 5).begin(0, 1);
        x.flow((node, m) -> node < 2);
        x.shows(0, 0, 1);
        x.shows(0, 1, 1);
        x.reaches(2, 1, 1, LedgerModel.VALUE);
        x.reaches(2, 0, 0, LedgerModel.VALUE);
        x.gives(0).waiting(0);
        x.begin(2);
        x.gives(3).waiting(0);
        x.shows(2, 0, 1);
        x.shows(2, 1, 1);
        x.shows(2, 2, 0);
        x.gives(0).deliver(0, 0);
        x.gives(1).deliver(0, 0);
        x.shows(0, 0, 3);
        x.shows(0, 1, 1);
    }

    /** Node 3 is idle until all others are over, and has kept all that they sent. */
    @Sentence(promise = 3, says = "Terms: it goes on with the instances, as long as it is in this epoch.")
    static void throughAllEpochsAtOnce(Due due) {
        Play x = new Play(due, Seeds.with("111111 101110 111111 000000 1111110")).submit(1, 77).submit(3, 78).begin(0, 1, 2);
        x.flow((node, m) -> true);
        for (int node = 0; node < 3; node++) {
            x.gives(4).epoch(node);
            x.gives(0).waiting(node);
        }
        x.gives(-1).epoch(3);
        x.begin(3);
        x.gives(4).epoch(3);
        x.hasLedger(3, 77);
        x.hasQueue(3, 78);
        x.gives(0).deliver(0, 0);
        x.gives(1).deliver(0, 0);
        x.gives(2).deliver(0, 0);
        x.gives(3).deliver(0, 0);
        x.gives(4).deliver(0, 0);
    }

    public static void main(String[] args) throws IllegalAccessException {
        Sentences.test(Promise03BeginTest.class);
    }
}
