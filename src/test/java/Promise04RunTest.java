/** Promise 4: run. */
public final class Promise04RunTest {
    /** So many messages wait for the idle node 0. */
    private static Play waiting(Due due, int number) {
        Play x = new Play(due, 5);
        x.yes().betray();
        for (int i = 0; i < number; i++) {
            x.yes().speak(0, 0, 3, LedgerModel.READY, i, 0);
        }
        return x;
    }

    @Sentence(promise = 4, says = "The first messages that have not reached a node reach it, one after the other.")
    static void theFirstOnes(Due due) {
        Play x = new Play(due, 5).begin(2, 0, 1);
        x.gives(2).run(1, 2);
        x.shows(1, 2, 1);
        x.shows(1, 0, 1);
        x.shows(1, 1, 0);
        x.gives(3).waiting(1);
        x.gives(1).run(1, 1);
        x.shows(1, 1, 1);
    }

    @Sentence(promise = 4, says = "up to n: how many: n = 60 of 59, 60 and 61 that wait.")
    static void upToSixty(Due due) {
        for (int number = 59; number <= 61; number++) {
            Play x = waiting(due, number);
            x.gives(number == 59 ? 59 : 60).run(0, 60);
            x.gives(number == 61 ? 1 : 0).waiting(0);
        }
    }

    @Sentence(promise = 4, says = "up to n: how many: n of n - 1, n and n + 1 that wait.")
    static void upToN(Due due) {
        for (int number = 1; number <= 3; number++) {
            Play x = waiting(due, number);
            x.gives(Math.min(number, 2)).run(0, 2);
            x.gives(Math.max(number - 2, 0)).waiting(0);
        }
    }

    @Sentence(promise = 4, says = "up to n: none if n is 0.")
    static void upToNone(Due due) {
        Play x = new Play(due, 5).betray();
        for (int node = 0; node < 4; node++) {
            x.onlyAnswers(0).run(node, 0);
        }
    }

    @Sentence(promise = 4, says = "up to n: none if none waits.")
    static void noneWaits(Due due) {
        Play x = new Play(due, 5).begin(1);
        x.gives(2).run(1, 60);
        x.onlyAnswers(0).run(1, 60);
        x.onlyAnswers(0).run(1, 1);
        x.onlyAnswers(0).run(1, 0);
    }

    @Sentence(promise = 4, says = "up to n (those that come meanwhile, too).")
    static void thoseThatComeMeanwhile(Due due) {
        for (int n = 1; n <= 3; n++) {
            Play x = new Play(due, 5).begin(0);
            x.gives(Math.min(n, 2)).run(0, n);
            x.gives(n == 1 ? 1 : 0).waiting(0);
            x.gives(2).waiting(1);
        }
    }

    @Sentence(promise = 4, says = "(those that come meanwhile, too): behind all those sent before.")
    static void meanwhileBehindTheOthers(Due due) {
        Play x = new Play(due, 5).begin(0, 1);
        x.gives(1).run(0, 1);
        x.gives(0).deliver(0, 0);
        x.gives(1).deliver(0, 0);
        x.gives(1).deliver(0, 0);
        x.gives(0).waiting(0);
    }

    @Sentence(promise = 4, says = "up to n: of a node that is idle, over, or the traitor, too.")
    static void anyStateOfTheNode(Due due) {
        Play x = new Play(due, Seeds.ALL_ONE).begin(0, 1, 2, 3);
        x.flow((node, m) -> node < 3 || m.kind == LedgerModel.VALUE || m.epoch < 3);
        x.gives(4).epoch(0);
        x.gives(3).epoch(3);
        x.yes().betray();
        int left = x.does().waiting(3);
        x.gives(1).run(3, 1);
        x.gives(60).run(3, 60);
        x.gives(left - 61).run(3, 60);
        x.gives(0).waiting(3);
        x.yes().speak(0, 3, 3, LedgerModel.READY, 0, 0);
        x.gives(1).run(0, 60);
        x.gives(4).epoch(0);
    }

    @Sentence(promise = 4, says = "Refused, -1: there is no such node. Terms: NODES are 0 .. 3.")
    static void noSuchNode(Due due) {
        Play x = new Play(due, 5).betray();
        for (int node : Play.outside(0, 3)) {
            x.refuses().run(node, 0);
            x.refuses().run(node, 1);
            x.refuses().run(node, 60);
            x.refuses().run(node, 61);
        }
        x.gives(3).run(3, 60);
        x.gives(6).run(0, 60);
    }

    @Sentence(promise = 4, says = "Refused, -1: n is not 0 .. 60.")
    static void noSuchN(Due due) {
        Play x = waiting(due, 70).begin(0);
        for (int n : Play.outside(0, 60)) {
            for (int node = 0; node < 4; node++) {
                x.refuses().run(node, n);
            }
        }
        x.gives(60).run(0, 60);
    }

    @Sentence(promise = 4, says = "Refused, -1: n is not 0 .. 60: though none waits.")
    static void noSuchNAndNoneWaits(Due due) {
        Play x = new Play(due, 5);
        for (int n : Play.outside(0, 60)) {
            x.refuses().run(2, n);
        }
    }

    public static void main(String[] args) throws IllegalAccessException {
        Sentences.test(Promise04RunTest.class);
    }
}
