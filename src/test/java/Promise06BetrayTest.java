/** Promise 6: betray. */
public final class Promise06BetrayTest {
    @Sentence(promise = 6, says = "Node 3 becomes a traitor: true; false if it is one.")
    static void onceOnly(Due due) {
        Play x = new Play(due, 5);
        x.yes().betray();
        x.refuses().betray();
        x.begin(0, 1, 2);
        x.yes().speak(0, 0, 3, 2, 0, 0);
        x.refuses().betray();
    }

    @Sentence(promise = 6, says = "false if it is one: the 300 messages are not to be had once more.")
    static void noNewMessages(Due due) {
        Play x = new Play(due, 5);
        x.yes().betray();
        for (int i = 0; i < 150; i++) {
            x.yes().speak(0, 0, 3, 2, 0, 0);
        }
        x.gives(0).betray();
        for (int i = 0; i < 150; i++) {
            x.yes().speak(0, 0, 3, 2, 0, 0);
        }
        x.gives(0).betray();
        x.refuses().speak(0, 0, 3, 2, 0, 0);
    }

    @Sentence(promise = 6, says = "Node 3 becomes a traitor: true: when it is over, too.")
    static void anyStateOfTheNode(Due due) {
        Play x = new Play(due, Seeds.ALL_ONE).submit(3, 1).begin(0, 1, 2, 3);
        x.flow((node, m) -> true);
        x.gives(4).epoch(3);
        x.yes().betray();
        x.refuses().betray();
        x.gives(4).epoch(3);
        x.hasLedger(3, 1);
        x.yes().speak(3, 0, 0, 2, 0, 0);
    }

    @Sentence(promise = 6, says = "Terms: from then on it does nothing by itself.")
    static void doesNothing(Due due) {
        Play x = new Play(due, 5).begin(0, 1, 2, 3);
        x.gives(2).run(3, 2);
        x.gives(6).waiting(0);
        x.yes().betray();
        x.gives(4).run(3, 60);
        x.gives(6).waiting(0);
        x.gives(0).waiting(3);
        x.gives(0).epoch(3);
    }

    @Sentence(promise = 6, says = "Terms: nothing that reaches it matters.")
    static void nothingMatters(Due due) {
        Play x = new Play(due, Seeds.ALL_ONE).submit(3, 8).begin(0, 1, 2, 3);
        x.gives(2).run(3, 2);
        x.yes().betray();
        x.flow((node, m) -> m.epoch == 0);
        x.gives(1).epoch(0);
        x.hasLedger(0, 8);
        x.gives(0).epoch(3);
        x.shows(3, 0, 1, -1, -1, -1, -1, 0, 0);
        x.shows(3, 1, 1, -1, -1, -1, -1, 0, 0);
        x.shows(3, 2, 0, -1, -1, -1, -1, 0, 0);
        x.shows(3, 3, 0, -1, -1, -1, -1, 0, 0);
        x.hasLedger(3);
        x.hasQueue(3, 8);
    }

    @Sentence(promise = 6, says = "Terms: from then on it does nothing by itself: what it sent before counts.")
    static void whatItSentBefore(Due due) {
        Play x = new Play(due, Seeds.ALL_ZERO).submit(3, 8, 9).begin(0, 1, 3);
        x.flow((node, m) -> node == 3 && m.kind == LedgerModel.VALUE);
        x.yes().betray();
        x.flow((node, m) -> node < 2);
        for (int node = 0; node < 2; node++) {
            x.shows(node, 3, 3, -1);
            x.hears(node, 0, 3, LedgerModel.READY, LedgerModel.rootOf(LedgerModel.parts(8, 9)), 0);
            x.shows(node, 3, 7, 8 + 256 * 9, 0, 1);
        }
    }

    @Sentence(promise = 6, says = "Terms: nothing that reaches it matters: an idle one stays idle.")
    static void idleTraitor(Due due) {
        Play x = new Play(due, 5).betray();
        x.gives(3).run(3, 60);
        x.gives(-1).epoch(3);
        x.shows(3, 0, -1);
        x.gives(3).waiting(0);
    }

    public static void main(String[] args) throws IllegalAccessException {
        Sentences.test(Promise06BetrayTest.class);
    }
}
