/** Promise 5: deliver. */
public final class Promise05DeliverTest {
    @Sentence(promise = 5, says = "Message k, from 0, of those that have not reached a node reaches it.")
    static void messageK(Due due) {
        for (int k = 0; k < 3; k++) {
            Play x = new Play(due, 5).begin(0, 1, 2);
            x.gives(0).deliver(1, k);
            for (int instance = 0; instance < 3; instance++) {
                x.shows(1, instance, instance == k ? 1 : 0);
            }
            x.gives(3).waiting(1);
            x.gives(4).waiting(0);
        }
    }

    @Sentence(promise = 5, says = "Message k, from 0, of those that have not reached a node: the others close up.")
    static void theOthersCloseUp(Due due) {
        Play x = new Play(due, 5).begin(0, 1, 2);
        x.gives(0).deliver(0, 1);
        x.gives(0).deliver(0, 1);
        x.shows(0, 0, 0);
        x.shows(0, 1, 1);
        x.shows(0, 2, 1);
        x.gives(0).deliver(0, 0);
        x.shows(0, 0, 1);
        x.gives(1).deliver(0, 2);
        x.refuses().deliver(0, 2);
    }

    @Sentence(promise = 5, says = "reaches it: its kind.")
    static void itsKind(Due due) {
        Play x = new Play(due, 5);
        x.yes().betray();
        for (int kind = 0; kind <= 4; kind++) {
            x.yes().speak(0, 0, 3, kind, 0, 0);
        }
        x.gives(2).deliver(0, 2);
        x.gives(4).deliver(0, 3);
        x.gives(0).deliver(0, 0);
        x.gives(3).deliver(0, 1);
        x.gives(1).deliver(0, 0);
        x.gives(0).waiting(0);
    }

    @Sentence(promise = 5, says = "Message k reaches it: the last of many.")
    static void theLastOfMany(Due due) {
        Play x = new Play(due, 5);
        x.yes().betray();
        for (int i = 0; i < 300; i++) {
            x.yes().speak(2, 0, 3, i == 299 ? LedgerModel.SURE : LedgerModel.VOTE, 0, 0);
        }
        x.refuses().deliver(2, 300);
        x.gives(4).deliver(2, 299);
        x.refuses().deliver(2, 299);
        x.gives(3).deliver(2, 298);
        x.gives(298).waiting(2);
    }

    @Sentence(promise = 5, says = "NONE if there is no such node. Terms: NODES are 0 .. 3.")
    static void noSuchNode(Due due) {
        Play x = new Play(due, 5).begin(0, 1, 2, 3);
        for (int node : Play.outside(0, 3)) {
            x.refuses().deliver(node, 0);
            x.refuses().deliver(node, 3);
            x.refuses().deliver(node, -1);
        }
        x.gives(0).deliver(0, 0);
        x.gives(0).deliver(3, 3);
    }

    @Sentence(promise = 5, says = "NONE if there is no such message.")
    static void noSuchMessage(Due due) {
        Play x = new Play(due, 5).begin(0, 1, 2);
        for (int node = 0; node < 4; node++) {
            x.refuses().deliver(node, 3);
            x.refuses().deliver(node, -1);
            for (int k : Play.outside(0, 2)) {
                x.refuses().deliver(node, k);
            }
        }
        x.gives(0).deliver(3, 2);
        x.refuses().deliver(3, 2);
        x.gives(0).deliver(3, 1);
        x.refuses().deliver(3, 1);
    }

    @Sentence(promise = 5, says = "NONE if there is no such message: none waits, or none any more.")
    static void noMessage(Due due) {
        Play x = new Play(due, 5);
        x.refuses().deliver(0, 0);
        x.refuses().deliver(0, -1);
        x.refuses().deliver(0, 1);
        x.refuses().deliver(0, Integer.MAX_VALUE);
        x.refuses().deliver(0, Integer.MIN_VALUE);
        x.begin(0);
        x.gives(2).run(0, 60);
        x.refuses().deliver(0, 0);
        x.gives(0).deliver(1, 0);
        x.gives(1).deliver(1, 0);
        x.refuses().deliver(1, 0);
    }

    public static void main(String[] args) throws IllegalAccessException {
        Sentences.test(Promise05DeliverTest.class);
    }
}
