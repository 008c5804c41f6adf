/** Promise 11: waiting. */
public final class Promise11WaitingTest {
    @Sentence(promise = 11, says = "How many messages have not reached a node.")
    static void howMany(Due due) {
        Play x = new Play(due, 5);
        x.onlyAnswers(0).waiting(0);
        x.begin(0);
        for (int node = 0; node < 4; node++) {
            x.onlyAnswers(1).waiting(node);
        }
        x.gives(0).deliver(0, 0);
        x.onlyAnswers(1).waiting(0);
        x.onlyAnswers(2).waiting(1);
        x.gives(1).run(0, 60);
        x.onlyAnswers(0).waiting(0);
        x.onlyAnswers(2).waiting(3);
    }

    @Sentence(promise = 11,
        says = "Terms: A node SENDS a message to all four, itself too, and it has not REACHED any of these.")
    static void sentToAllFour(Due due) {
        for (int sender = 0; sender < 4; sender++) {
            Play x = new Play(due, 5).begin(sender);
            for (int node = 0; node < 4; node++) {
                x.gives(1).waiting(node);
            }
            x.gives(0).deliver(sender, 0);
            for (int node = 0; node < 4; node++) {
                x.gives(node == sender ? 1 : 2).waiting(node);
            }
        }
    }

    @Sentence(promise = 11,
        says = "How many messages have not reached a node: of an idle node, of one that is over, of the traitor, too.")
    static void anyStateOfTheNode(Due due) {
        Play x = new Play(due, Seeds.ALL_ONE).begin(0, 1, 2, 3);
        x.flow((node, m) -> true);
        x.gives(4).epoch(3);
        x.gives(0).waiting(3);
        x.yes().betray();
        x.yes().speak(3, 3, 0, 2, 0, 0);
        x.yes().speak(0, 3, 0, 2, 0, 0);
        x.gives(1).waiting(3);
        x.gives(1).waiting(0);
        x.gives(0).waiting(1);
    }

    @Sentence(promise = 11, says = "How many messages have not reached a node: as many as the traitor can send, and more.")
    static void many(Due due) {
        Play x = new Play(due, 5).betray();
        for (int i = 0; i < 300; i++) {
            x.yes().speak(1, 3, 3, 4, 5, 1);
        }
        x.gives(303).waiting(1);
        x.gives(60).run(1, 60);
        x.gives(246).waiting(1);
    }

    @Sentence(promise = 11, says = "NONE if there is no such node. Terms: NODES are 0 .. 3.")
    static void noSuchNode(Due due) {
        Play x = new Play(due, 5).begin(0, 1, 2, 3);
        for (int node : Play.outside(0, 3)) {
            x.refuses().waiting(node);
        }
        x.onlyAnswers(4).waiting(0);
        x.onlyAnswers(4).waiting(3);
    }

    public static void main(String[] args) throws IllegalAccessException {
        Sentences.test(Promise11WaitingTest.class);
    }
}
