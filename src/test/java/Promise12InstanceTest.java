/** Promise 12: instance. */
public final class Promise12InstanceTest {
    @Sentence(promise = 12, says = "NONE if there is no such node. Terms: NODES are 0 .. 3.")
    static void noSuchNode(Due due) {
        Play x = new Play(due, 5).begin(0, 1, 2, 3);
        for (int node : Play.outside(0, 3)) {
            for (int what = 0; what <= 6; what++) {
                x.refuses().instance(node, 0, what);
                x.refuses().instance(node, 3, what);
            }
        }
    }

    @Sentence(promise = 12, says = "NONE if there is no such instance. Terms: an INSTANCE (a node).")
    static void noSuchInstance(Due due) {
        Play x = new Play(due, 5).begin(0, 1, 2, 3);
        for (int instance : Play.outside(0, 3)) {
            for (int what = 0; what <= 6; what++) {
                x.refuses().instance(0, instance, what);
                x.refuses().instance(3, instance, what);
            }
        }
    }

    @Sentence(promise = 12, says = "NONE if there is no such what.")
    static void noSuchWhat(Due due) {
        Play x = new Play(due, Seeds.ALL_ZERO).begin(0, 1, 2, 3);
        x.flow((node, m) -> true);
        for (int what : Play.outside(0, 6)) {
            x.refuses().instance(0, 0, what);
            x.refuses().instance(3, 3, what);
        }
        x.onlyAnswers(7).instance(0, 0, 0);
        x.onlyAnswers(2).instance(3, 3, 6);
    }

    @Sentence(promise = 12, says = "NONE if the node is in no epoch: it is idle.")
    static void idle(Due due) {
        Play x = new Play(due, 5).begin(0, 1, 2);
        x.gives(3).run(3, 60);
        for (int instance = 0; instance < 4; instance++) {
            for (int what = 0; what <= 6; what++) {
                x.refuses().instance(3, instance, what);
            }
        }
    }

    @Sentence(promise = 12, says = "NONE if the node is in no epoch: it is over.")
    static void over(Due due) {
        Play x = new Play(due, Seeds.ALL_ONE).begin(0, 1, 2, 3);
        x.flow((node, m) -> true);
        for (int node = 0; node < 4; node++) {
            x.gives(4).epoch(node);
            for (int what = 0; what <= 6; what++) {
                x.refuses().instance(node, node, what);
            }
        }
    }

    @Sentence(promise = 12, says = "Of an instance at a node, in its epoch: anew in each of them, the last one too.")
    static void inItsEpoch(Due due) {
        Play x = new Play(due, Seeds.ALL_ONE).begin(0, 1, 2, 3);
        for (int epoch = 1; epoch <= 3; epoch++) {
            int now = epoch;
            x.flow((node, m) -> m.epoch < now);
            for (int instance = 0; instance < 4; instance++) {
                x.shows(0, instance, 0, -1, -1, -1, -1, 0, 0);
            }
            x.flow((node, m) -> m.epoch == now && m.kind <= Scenes.READY);
            for (int instance = 0; instance < 4; instance++) {
                x.shows(3, instance, 7, 0, 0, 1, -1, 0, 0);
            }
        }
    }

    @Sentence(promise = 12, says = "what 0: 1 if it has sent ECHO, + 2 if READY, + 4 if a proposal is delivered.")
    static void sentAndDelivered(Due due) {
        Play x = new Play(due, Seeds.ALL_ZERO).begin(0, 1, 2, 3);
        x.flow((node, m) -> node < 3 && m.instance == 1 && m.kind <= Scenes.READY);
        x.onlyAnswers(7).instance(0, 1, 0);
        x.onlyAnswers(0).instance(3, 1, 0);
        x.reaches(3, 0, 1, Scenes.READY);
        x.onlyAnswers(0).instance(3, 1, 0);
        x.reaches(3, 1, 1, Scenes.READY);
        x.onlyAnswers(2).instance(3, 1, 0);
        x.reaches(3, 2, 1, Scenes.READY);
        x.reaches(3, 0, 1, Scenes.ECHO);
        x.onlyAnswers(2).instance(3, 1, 0);
        x.reaches(3, 2, 1, Scenes.ECHO);
        x.onlyAnswers(6).instance(3, 1, 0);
        x.reaches(3, 1, 1, Scenes.VALUE);
        x.onlyAnswers(7).instance(3, 1, 0);
    }

    @Sentence(promise = 12, says = "1: that proposal, p + 256 * q, NONE if there is none.")
    static void proposal(Due due) {
        int[][] queues = {{}, {1}, {255}, {255, 254}, {1, 255}};
        int[] want = {0, 1, 255, 255 + 256 * 254, 1 + 256 * 255};
        for (int i = 0; i < queues.length; i++) {
            Play x = new Play(due, Seeds.ALL_ZERO).submit(2, queues[i]).begin(0, 1, 2);
            x.flow((node, m) -> m.instance == 2 && m.kind <= Scenes.ECHO);
            x.onlyAnswers(-1).instance(0, 2, 1);
            x.flow((node, m) -> m.instance == 2 && m.kind <= Scenes.READY);
            x.onlyAnswers(want[i]).instance(0, 2, 1);
            x.onlyAnswers(-1).instance(0, 1, 1);
        }
    }

    @Sentence(promise = 12, says = "1: that proposal, p + 256 * q: two bytes, each up to 255.")
    static void largestProposal(Due due) {
        Play x = new Play(due, Seeds.ALL_ZERO).betray();
        int[] bytes = {255, 255, 255, 255};
        for (int node = 0; node < 3; node++) {
            x.yes().speak(node, 0, 3, Scenes.VALUE, LedgerModel.rootOf(bytes), Scenes.witness(node, bytes));
        }
        x.flow((node, m) -> node < 3 && m.instance == 3 && m.kind <= Scenes.READY);
        x.onlyAnswers(65535).instance(0, 3, 1);
    }

    @Sentence(promise = 12, says = "2: the agreement's round, NONE if it has no input; 3: its estimate, likewise.")
    static void roundAndEstimate(Due due) {
        Play x = Scenes.split(due, "111111", 1, 2);
        x.onlyAnswers(0).instance(0, 3, 2);
        x.onlyAnswers(1).instance(0, 3, 3);
        x.onlyAnswers(0).instance(1, 3, 2);
        x.onlyAnswers(0).instance(1, 3, 3);
        x.onlyAnswers(-1).instance(2, 3, 2);
        x.onlyAnswers(-1).instance(2, 3, 3);
    }

    @Sentence(promise = 12, says = "4: what it decided, NONE if nothing.")
    static void decided(Due due) {
        Play x = Scenes.twoSure(due, "1");
        x.onlyAnswers(-1).instance(0, 0, 4);
        x.onlyAnswers(-1).instance(0, 1, 4);
        x.hears(0, 0, 0, Scenes.SURE, 0, 1);
        x.onlyAnswers(1).instance(0, 0, 4);
    }

    /** Node 0 lacks the SUREs of instance 2, so that it stays in the epoch. */
    @Sentence(promise = 12, says = "4: what it decided: 0, too.")
    static void decidedZero(Due due) {
        Play x = Scenes.split(due, "000000", 1, 6);
        x.hears(0, 0, 3, Scenes.VOTE, 0, 0);
        x.hears(0, 0, 3, Scenes.SURE, 0, 0);
        x.hears(1, 0, 3, Scenes.VOTE, 0, 0);
        x.hears(2, 0, 3, Scenes.VOTE, 0, 0);
        x.flow((node, m) -> m.epoch == 0 && m.instance == 3 && m.kind == Scenes.VOTE);
        x.reaches(0, 1, 3, Scenes.SURE);
        x.onlyAnswers(-1).instance(0, 3, 4);
        x.reaches(0, 2, 3, Scenes.SURE);
        x.onlyAnswers(0).instance(0, 3, 4);
    }

    @Sentence(promise = 12, says = "5: whether it is done (1 or 0).")
    static void done(Due due) {
        Play x = new Play(due, Seeds.ALL_ZERO).begin(0, 1, 2, 3);
        x.onlyAnswers(0).instance(0, 0, 5);
        x.flow((node, m) -> m.kind < Scenes.SURE || m.a < 5);
        x.onlyAnswers(5).instance(0, 0, 2);
        x.onlyAnswers(0).instance(0, 0, 5);
        x.flow((node, m) -> true);
        x.onlyAnswers(5).instance(0, 0, 2);
        x.onlyAnswers(1).instance(0, 0, 5);
    }

    @Sentence(promise = 12, says = "6: the good bits of its round (1 for 0, + 2 for 1).")
    static void goodBits(Due due) {
        Play x = Scenes.split(due, "111111", 1, 2);
        x.reaches(0, 1, 3, Scenes.VOTE);
        x.hears(0, 0, 3, Scenes.VOTE, 0, 0);
        x.onlyAnswers(0).instance(0, 3, 6);
        x.flow((node, m) -> node == 0 && m.sender == 0 && m.instance == 3 && m.kind == Scenes.VOTE && m.b[0] == 0);
        x.onlyAnswers(1).instance(0, 3, 6);
        x.reaches(0, 0, 3, Scenes.VOTE);
        x.hears(0, 0, 3, Scenes.VOTE, 0, 1);
        x.onlyAnswers(1).instance(0, 3, 6);
        x.reaches(1, 0, 3, Scenes.VOTE);
        x.hears(1, 0, 3, Scenes.VOTE, 0, 1);
        x.reaches(0, 1, 3, Scenes.VOTE);
        x.onlyAnswers(3).instance(0, 3, 6);
    }

    @Sentence(promise = 12, says = "6: the good bits of its round: none yet in the next one.")
    static void goodBitsOfTheNextRound(Due due) {
        Play x = Scenes.twoSure(due, "1");
        x.onlyAnswers(2).instance(0, 0, 6);
        x.hears(0, 0, 0, Scenes.SURE, 0, 1);
        x.onlyAnswers(1).instance(0, 0, 2);
        x.onlyAnswers(0).instance(0, 0, 6);
    }

    /** The VOTEs of 0, 1 and the traitor with 1 are there before node 2 has an input. */
    @Sentence(promise = 12, says = "6: the good bits of its round, 0 if it has no input.")
    static void noGoodBitsWithoutInput(Due due) {
        Play x = Scenes.split(due, "000000", 3, 0);
        x.reaches(2, 0, 3, Scenes.VOTE);
        x.reaches(2, 1, 3, Scenes.VOTE);
        x.hears(2, 0, 3, Scenes.VOTE, 0, 1);
        x.onlyAnswers(0).instance(2, 3, 6);
        x.onlyAnswers(-1).instance(2, 3, 2);
        x.flow((node, m) -> node == 2 && m.instance == 3 && m.kind == Scenes.READY);
        x.onlyAnswers(2).instance(2, 3, 6);
    }

    public static void main(String[] args) throws IllegalAccessException {
        Sentences.test(Promise12InstanceTest.class);
    }
}
