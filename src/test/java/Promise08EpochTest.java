/** Promise 8: epoch. */
public final class Promise08EpochTest {
    @Sentence(promise = 8,
        says = "The epoch that a node is in: NONE if it is idle, 4 if it is over. Terms: EPOCHS are 0 .. 3.")
    static void allEpochs(Due due) {
        Play x = new Play(due, Seeds.ALL_ONE);
        for (int node = 0; node < 4; node++) {
            x.gives(-1).epoch(node);
        }
        x.begin(0, 1, 2, 3);
        for (int epoch = 0; epoch <= 4; epoch++) {
            for (int node = 0; node < 4; node++) {
                x.gives(epoch).epoch(node);
            }
            int now = epoch;
            x.flow((node, m) -> m.epoch == now);
        }
    }

    @Sentence(promise = 8, says = "The epoch that a node is in: each node its own.")
    static void eachItsOwn(Due due) {
        Play x = new Play(due, Seeds.ALL_ONE).begin(0, 1, 2, 3);
        x.flow((node, m) -> m.epoch == 0 && (node != 3 || m.kind <= Scenes.VOTE));
        x.gives(1).epoch(0);
        x.gives(1).epoch(1);
        x.gives(1).epoch(2);
        x.gives(0).epoch(3);
    }

    @Sentence(promise = 8,
        says = "4 if it is over. Terms: behind the last epoch OVER: nothing brings it further, and it sends nothing.")
    static void overForGood(Due due) {
        Play x = new Play(due, Seeds.ALL_ONE).submit(0, 1, 2, 3, 4, 5, 6, 7, 8, 9).begin(0, 1, 2, 3);
        x.flow((node, m) -> node < 3 || m.epoch < 3);
        x.gives(4).epoch(0);
        x.gives(3).epoch(3);
        x.gives(8).ledger(0, -1);
        x.gives(6).ledger(3, -1);
        int waiting = x.does().waiting(0);
        x.yes().betray();
        for (int epoch = 0; epoch <= 3; epoch++) {
            for (int kind = 0; kind <= 4; kind++) {
                x.hears(0, epoch, 3, kind, kind == 0 ? Scenes.ROOT : 0, kind == 0 ? Scenes.WITNESSES[0] : 0);
            }
        }
        x.gives(4).epoch(0);
        x.gives(waiting).waiting(0);
        x.hasQueue(0, 9);
    }

    @Sentence(promise = 8, says = "NONE if there is no such node. Terms: NODES are 0 .. 3.")
    static void noSuchNode(Due due) {
        Play x = new Play(due, 5).begin(0, 1, 2, 3);
        for (int node : Play.outside(0, 3)) {
            x.refuses().epoch(node);
        }
        x.onlyAnswers(0).epoch(0);
        x.onlyAnswers(0).epoch(3);
    }

    public static void main(String[] args) throws IllegalAccessException {
        Sentences.test(Promise08EpochTest.class);
    }
}
