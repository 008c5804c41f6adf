/** Sentences of 'Terms' about messages: whom they reach, what is sent once only, which of them count, and which are kept. */
public final class TermsMessagesTest {
    private static final int VALUE = Scenes.VALUE;
    private static final int ECHO = Scenes.ECHO;
    private static final int READY = Scenes.READY;
    private static final int VOTE = Scenes.VOTE;
    private static final int SURE = Scenes.SURE;
    private static final int ROOT = Scenes.ROOT;

    private static int otherWitness(int k) {
        return Scenes.witness(k, Scenes.OTHER_PARTS);
    }

    // ---- sending

    @Sentence(promise = 5, says = "Terms: it is put behind all those sent before.")
    static void behindAllSentBefore(Due due) {
        Play x = new Play(due, 5).begin(0);
        x.gives(0).deliver(0, 0);
        x.begin(1);
        x.gives(0).deliver(2, 0);
        x.gives(1).deliver(2, 0);
        x.gives(0).deliver(2, 0);
        x.gives(0).waiting(2);
    }

    @Sentence(promise = 5, says = "Terms: (A value has for each node the witness for that.)")
    static void aWitnessForEach(Due due) {
        Play x = new Play(due, 5).submit(1, 200, 77).begin(0, 1, 2, 3);
        for (int node = 0; node < 4; node++) {
            x.reaches(node, 1, 1, VALUE);
            x.shows(node, 1, 1);
        }
    }

    @Sentence(promise = 12, says = "Terms: A node sends nothing twice: ECHO of the same epoch and instance.")
    static void oneEcho(Due due) {
        Play x = new Play(due, 5).begin(0);
        x.yes().betray();
        x.hears(0, 0, 3, VALUE, ROOT, Scenes.WITNESSES[0]);
        x.gives(2).waiting(1);
        x.hears(0, 0, 3, VALUE, ROOT, Scenes.WITNESSES[0]);
        x.hears(0, 0, 3, VALUE, Scenes.OTHER_ROOT, otherWitness(0));
        x.hears(0, 0, 3, READY, ROOT, 0);
        x.gives(2).waiting(1);
    }

    @Sentence(promise = 12, says = "Terms: A node sends nothing twice: READY of the same epoch and instance.")
    static void oneReady(Due due) {
        Play x = new Play(due, Seeds.ALL_ZERO).begin(0, 1, 2, 3);
        x.flow((node, m) -> m.instance == 0 && m.kind <= ECHO);
        x.shows(3, 0, 3);
        x.gives(4 - 1 + 4).waiting(3);
        x.reaches(3, 0, 0, READY);
        x.reaches(3, 1, 0, READY);
        x.gives(4 - 1 + 2).waiting(3);
    }

    @Sentence(promise = 12, says = "Terms: A node sends nothing twice: VOTE of the same epoch, instance, round and bit.")
    static void oneVote(Due due) {
        Play x = Scenes.twoDelivered(due, "");
        int before = x.does().waiting(2);
        x.hears(0, 0, 0, VOTE, 0, 1);
        x.reaches(0, 1, 0, VOTE);
        x.gives(before).waiting(2);
    }

    @Sentence(promise = 12,
        says = "Terms: VOTE of the same epoch, instance, round and bit: in the next round it is sent again.")
    static void voteOfTheNextRound(Due due) {
        Play x = Scenes.twoSure(due, "");
        int before = x.does().waiting(2);
        x.hears(0, 0, 0, SURE, 0, 1);
        x.gives(1).instance(0, 0, 2);
        x.gives(before + 1).waiting(2);
        x.gives(VOTE).deliver(2, before);
    }

    @Sentence(promise = 12,
        says = "Terms: A node sends nothing twice: SURE of the same epoch, instance and round, though both bits are good.")
    static void oneSure(Due due) {
        Play x = Scenes.split(due, "111111", 1, 2);
        x.reaches(0, 1, 3, VOTE);
        x.hears(0, 0, 3, VOTE, 0, 0);
        x.reaches(1, 0, 3, VOTE);
        x.hears(1, 0, 3, VOTE, 0, 1);
        x.reaches(0, 0, 3, VOTE);
        x.reaches(0, 0, 3, VOTE);
        x.gives(1).instance(0, 3, 6);
        int before = x.does().waiting(2);
        x.reaches(0, 1, 3, VOTE);
        x.gives(1).instance(0, 3, 6);
        x.hears(0, 0, 3, VOTE, 0, 1);
        x.gives(3).instance(0, 3, 6);
        x.gives(before).waiting(2);
    }

    @Sentence(promise = 12, says = "Terms: SURE of the same epoch, instance and round: in the next round it is sent again.")
    static void sureOfTheNextRound(Due due) {
        Play x = Scenes.twoSure(due, "");
        x.hears(0, 0, 0, SURE, 0, 1);
        x.hears(1, 0, 0, SURE, 0, 1);
        x.reaches(0, 0, 0, VOTE);
        x.reaches(0, 1, 0, VOTE);
        int before = x.does().waiting(2);
        x.hears(0, 0, 0, VOTE, 1, 1);
        x.gives(2).instance(0, 0, 6);
        x.gives(before + 1).waiting(2);
        x.gives(SURE).deliver(2, before);
    }

    // ---- counting

    @Sentence(promise = 7, says = "Terms: counts only if the sender is the instance, for a VALUE.")
    static void valueOfAnotherSender(Due due) {
        Play x = new Play(due, 5).begin(0, 1, 2);
        x.yes().betray();
        for (int instance = 0; instance < 3; instance++) {
            x.hears(0, 0, instance, VALUE, ROOT, Scenes.WITNESSES[0]);
            x.shows(0, instance, 0);
        }
        x.hears(0, 0, 3, VALUE, ROOT, Scenes.WITNESSES[0]);
        x.shows(0, 3, 1);
        x.reaches(0, 1, 1, VALUE);
        x.shows(0, 1, 1);
    }

    @Sentence(promise = 7, says = "Terms: counts only if the sender is the instance: for a VALUE alone.")
    static void othersOfAnySender(Due due) {
        Play x = Scenes.twoEchoes(due);
        x.hears(0, 0, 0, ECHO, ROOT, Scenes.WITNESSES[3]);
        x.shows(0, 0, 3);
    }

    /** The idle nodes keep the traitor's first VALUE; with the second, their ECHOs would not have one root. */
    @Sentence(promise = 7, says = "Terms: a first one of a sender, epoch, instance and kind for VALUE.")
    static void firstValue(Due due) {
        Play x = new Play(due, Seeds.ALL_ZERO);
        x.yes().betray();
        for (int node = 0; node < 3; node++) {
            x.hears(node, 0, 3, VALUE, ROOT, Scenes.WITNESSES[node]);
        }
        x.hears(2, 0, 3, VALUE, Scenes.OTHER_ROOT, otherWitness(2));
        x.begin(0, 1, 2);
        for (int sender = 0; sender < 3; sender++) {
            x.shows(0, 3, 1);
            x.reaches(0, sender, 3, ECHO);
        }
        x.shows(0, 3, 3);
    }

    @Sentence(promise = 7, says = "Terms: a first one of a sender, epoch, instance and kind for ECHO.")
    static void firstEcho(Due due) {
        Play x = Scenes.twoEchoes(due);
        x.hears(0, 0, 0, ECHO, Scenes.OTHER_ROOT, otherWitness(3));
        x.hears(0, 0, 0, ECHO, ROOT, Scenes.WITNESSES[3]);
        x.shows(0, 0, 1);
        x.reaches(2, 0, 0, VALUE);
        x.reaches(0, 2, 0, ECHO);
        x.shows(0, 0, 3);
    }

    @Sentence(promise = 7, says = "Terms: a first one of a sender for ECHO: the same one again is of no other sender.")
    static void sameEchoAgain(Due due) {
        Play x = new Play(due, Seeds.ALL_ZERO).submit(0, 10, 20).betray();
        x.reaches(0, 0, 0, VALUE);
        x.reaches(0, 0, 0, ECHO);
        x.hears(0, 0, 0, ECHO, ROOT, Scenes.WITNESSES[3]);
        x.hears(0, 0, 0, ECHO, ROOT, Scenes.WITNESSES[3]);
        x.hears(0, 0, 0, ECHO, ROOT, Scenes.WITNESSES[3]);
        x.shows(0, 0, 1);
    }

    @Sentence(promise = 7,
        says = "Terms: a first one of a sender, epoch, instance and kind: of another epoch or instance it is a first one, too.")
    static void firstOfEachEpochAndInstance(Due due) {
        Play x = Scenes.twoEchoes(due);
        x.hears(0, 1, 0, ECHO, Scenes.OTHER_ROOT, otherWitness(3));
        x.hears(0, 0, 1, ECHO, Scenes.OTHER_ROOT, otherWitness(3));
        x.hears(0, 0, 0, READY, Scenes.OTHER_ROOT, 0);
        x.shows(0, 0, 1);
        x.hears(0, 0, 0, ECHO, ROOT, Scenes.WITNESSES[3]);
        x.shows(0, 0, 3);
    }

    /** Node 2 has no VALUE and no ECHO about instance 0; the nodes 0 and 1 have sent READY. */
    private static Play twoReadies(Due due) {
        Play x = Scenes.twoEchoes(due);
        x.hears(0, 0, 0, ECHO, ROOT, Scenes.WITNESSES[3]);
        x.hears(1, 0, 0, ECHO, ROOT, Scenes.WITNESSES[3]);
        x.reaches(1, 0, 0, ECHO);
        x.reaches(1, 1, 0, ECHO);
        x.shows(0, 0, 3);
        x.shows(1, 0, 3);
        x.shows(2, 0, 0);
        return x;
    }

    @Sentence(promise = 7, says = "Terms: a first one of a sender, epoch, instance and kind for READY.")
    static void firstReady(Due due) {
        Play x = twoReadies(due);
        x.hears(2, 0, 0, READY, Scenes.OTHER_ROOT, 0);
        x.hears(2, 0, 0, READY, ROOT, 0);
        x.reaches(2, 0, 0, READY);
        x.shows(2, 0, 0);
        x.reaches(2, 1, 0, READY);
        x.shows(2, 0, 2);
    }

    @Sentence(promise = 7, says = "Terms: a first one of a sender for READY: the same one again is of no other sender.")
    static void sameReadyAgain(Due due) {
        Play x = twoReadies(due);
        x.hears(2, 0, 0, READY, ROOT, 0);
        x.hears(2, 0, 0, READY, ROOT, 0);
        x.shows(2, 0, 0);
        x.reaches(2, 0, 0, READY);
        x.shows(2, 0, 2);
    }

    @Sentence(promise = 7, says = "Terms: a first one of a sender, epoch, instance, round and bit for VOTE.")
    static void firstVote(Due due) {
        Play x = Scenes.twoDelivered(due, "");
        x.reaches(0, 1, 0, VOTE);
        x.hears(0, 0, 0, VOTE, 0, 1);
        x.hears(0, 0, 0, VOTE, 0, 1);
        x.gives(0).instance(0, 0, 6);
        x.reaches(0, 0, 0, VOTE);
        x.gives(2).instance(0, 0, 6);
    }

    @Sentence(promise = 7,
        says = "Terms: a first one of a sender, round and bit for VOTE: of the other bit it is a first one, too.")
    static void voteOfBothBits(Due due) {
        Play x = Scenes.twoVoted(due, "");
        x.hears(0, 0, 0, VOTE, 0, 0);
        x.gives(0).instance(0, 0, 6);
        x.hears(0, 0, 0, VOTE, 0, 1);
        x.gives(2).instance(0, 0, 6);
    }

    @Sentence(promise = 7,
        says = "Terms: a first one of a sender, epoch, instance, round and bit for VOTE: of another one it does not count here.")
    static void voteOfAnotherRound(Due due) {
        Play x = Scenes.twoVoted(due, "");
        x.hears(0, 0, 0, VOTE, 1, 1);
        x.hears(0, 0, 0, VOTE, 5, 1);
        x.hears(0, 0, 1, VOTE, 0, 1);
        x.hears(0, 1, 0, VOTE, 0, 1);
        x.gives(0).instance(0, 0, 6);
        x.hears(0, 0, 0, VOTE, 0, 1);
        x.gives(2).instance(0, 0, 6);
    }

    @Sentence(promise = 7, says = "Terms: a first one of a sender, epoch, instance and round for SURE.")
    static void firstSure(Due due) {
        Play x = Scenes.twoSure(due, "");
        x.hears(0, 0, 0, SURE, 0, 0);
        x.hears(0, 0, 0, SURE, 0, 1);
        x.gives(0).instance(0, 0, 2);
    }

    @Sentence(promise = 7, says = "Terms: a first one of a sender for SURE: the same one again is of no other sender.")
    static void sameSureAgain(Due due) {
        Play x = Scenes.twoVoted(due, "");
        x.hears(0, 0, 0, VOTE, 0, 1);
        x.reaches(0, 0, 0, SURE);
        x.hears(0, 0, 0, SURE, 0, 1);
        x.hears(0, 0, 0, SURE, 0, 1);
        x.gives(0).instance(0, 0, 2);
    }

    @Sentence(promise = 7,
        says = "Terms: a first one of a sender, epoch, instance and round for SURE: of another one it does not count here.")
    static void sureOfAnotherRound(Due due) {
        Play x = Scenes.twoSure(due, "");
        x.hears(0, 0, 0, SURE, 1, 1);
        x.hears(0, 0, 0, SURE, 5, 0);
        x.hears(0, 0, 1, SURE, 0, 0);
        x.hears(0, 1, 0, SURE, 0, 0);
        x.gives(0).instance(0, 0, 2);
        x.hears(0, 0, 0, SURE, 0, 1);
        x.gives(1).instance(0, 0, 2);
    }

    // ---- keeping

    /** Node 0 hears of the last epoch while it is idle. */
    @Sentence(promise = 4, says = "Terms: If it is of the node's epoch, or of a later one, it is KEPT: the last one, too.")
    static void keptForTheLastEpoch(Due due) {
        Play x = new Play(due, Seeds.with("111111 101110 111111 000000 1111110"));
        x.yes().betray();
        x.hears(0, 3, 3, VALUE, ROOT, Scenes.WITNESSES[0]);
        x.begin(0, 1, 2);
        x.gives(3).waiting(0);
        x.shows(0, 3, 0);
        x.flow((node, m) -> node < 3 && m.epoch < 3);
        x.gives(3).epoch(0);
        x.gives(3).epoch(1);
        x.shows(0, 3, 1);
        x.shows(1, 3, 0);
    }

    @Sentence(promise = 4, says = "Terms: of a later one, it is KEPT: of the next epoch.")
    static void keptForTheNextEpoch(Due due) {
        Play x = new Play(due, Seeds.with("111111 101110 111111 000000 1111110")).betray();
        x.hears(0, 1, 3, VALUE, ROOT, Scenes.WITNESSES[0]);
        x.hears(0, 2, 3, VALUE, Scenes.OTHER_ROOT, otherWitness(0));
        x.shows(0, 3, 0);
        x.flow((node, m) -> node < 3 && m.epoch < 1);
        x.gives(1).epoch(0);
        x.shows(0, 3, 1);
    }

    @Sentence(promise = 4,
        says = "Terms: of a later one, it is KEPT: an idle node keeps what reaches it, and sends nothing.")
    static void keptByAnIdleNode(Due due) {
        Play x = new Play(due, 5).begin(0);
        x.gives(1).run(1, 60);
        x.gives(1).waiting(0);
        x.begin(1);
        x.shows(1, 0, 1);
        x.gives(3).waiting(0);
    }

    @Sentence(promise = 4, says = "Terms: If it is of the node's epoch, it is KEPT: VOTEs and SUREs of later rounds, too.")
    static void keptForALaterRound(Due due) {
        Play x = Scenes.twoSure(due, "");
        x.hears(0, 0, 0, VOTE, 1, 1);
        x.hears(0, 0, 0, SURE, 1, 1);
        x.hears(0, 0, 0, SURE, 0, 1);
        x.hears(1, 0, 0, SURE, 0, 1);
        x.hears(1, 0, 0, VOTE, 1, 1);
        x.gives(1).instance(0, 0, 2);
        x.flow((node, m) -> node < 2 && m.instance == 0);
        x.gives(2).instance(0, 0, 2);
        x.gives(1).instance(1, 0, 2);
    }

    @Sentence(promise = 4, says = "Terms: if it is of its epoch, the node goes on with that instance.")
    static void goesOnWithThatInstance(Due due) {
        Play x = new Play(due, 5).begin(0);
        x.yes().betray();
        x.hears(0, 0, 3, VALUE, ROOT, Scenes.WITNESSES[0]);
        x.shows(0, 3, 1);
        x.shows(0, 0, 0);
    }

    @Sentence(promise = 4, says = "Terms: of earlier ones nothing matters.")
    static void ofAnEarlierEpoch(Due due) {
        Play x = new Play(due, Seeds.with("111111 101110 111111 000000 1111110")).betray();
        x.flow((node, m) -> node < 3 && m.epoch < 1);
        x.gives(1).epoch(0);
        int before = x.does().waiting(3);
        x.hears(0, 0, 3, VALUE, ROOT, Scenes.WITNESSES[0]);
        x.hears(0, 0, 3, ECHO, ROOT, Scenes.WITNESSES[3]);
        x.hears(0, 0, 3, READY, ROOT, 0);
        x.hears(0, 0, 3, VOTE, 0, 0);
        x.hears(0, 0, 3, SURE, 0, 0);
        x.gives(before).waiting(3);
        x.shows(0, 3, 0, -1, -1, -1, -1, 0, 0);
        x.hears(0, 1, 3, VALUE, Scenes.OTHER_ROOT, otherWitness(0));
        x.shows(0, 3, 1);
        x.gives(before + 1).waiting(3);
    }

    public static void main(String[] args) throws IllegalAccessException {
        Sentences.test(TermsMessagesTest.class);
    }
}
