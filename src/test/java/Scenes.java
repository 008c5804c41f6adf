/** Scenes that several tests begin with. Instances, kinds and nodes not named have not got anything. */
final class Scenes {
    static final int VALUE = LedgerModel.VALUE;
    static final int ECHO = LedgerModel.ECHO;
    static final int READY = LedgerModel.READY;
    static final int VOTE = LedgerModel.VOTE;
    static final int SURE = LedgerModel.SURE;

    /** The parts of the proposal 10, 20, and their root. */
    static final int[] PARTS = {10, 20, 54, 40};
    static final int PROPOSAL = 10 + 256 * 20;
    static final int ROOT = -684694265;
    /** The witnesses for the four nodes as speak takes them. */
    static final int[] WITNESSES = {218121994, 218138132, -1357723338, -1357729752};

    /** Another proposal, 7, 9. */
    static final int[] OTHER_PARTS = {7, 9, 27, 21};
    static final int OTHER_ROOT = -1015360852;

    /** Four bytes that are no proposal's parts. */
    static final int[] ODD_BYTES = {1, 2, 3, 4};
    static final int ODD_ROOT = 318496131;

    private Scenes() {
    }

    static int witness(int k, int[] bytes) {
        return LedgerModel.witnessFor(k, bytes);
    }

    /** ECHOs of the nodes 0 and 1 about instance 0 have reached node 0; node 2 has begun, node 3 is the traitor. */
    static Play twoEchoes(Due due) {
        Play x = new Play(due, Seeds.ALL_ZERO).submit(0, 10, 20).betray();
        x.reaches(0, 0, 0, VALUE);
        x.reaches(1, 0, 0, VALUE);
        x.reaches(0, 0, 0, ECHO);
        x.reaches(0, 1, 0, ECHO);
        x.shows(0, 0, 1);
        return x;
    }

    /** The nodes 0 and 1 have delivered the proposal of instance 0 with the traitor's help; their VOTEs are on the way. */
    static Play twoDelivered(Due due, String coins) {
        Play x = new Play(due, Seeds.with(coins)).submit(0, 10, 20).begin(0, 1);
        x.yes().betray();
        for (int node = 0; node < 2; node++) {
            x.yes().speak(node, 0, 0, ECHO, ROOT, WITNESSES[3]);
            x.yes().speak(node, 0, 0, READY, ROOT, 0);
        }
        x.flow((node, m) -> node < 2 && m.instance == 0 && m.kind <= READY);
        for (int node = 0; node < 2; node++) {
            x.shows(node, 0, 7, PROPOSAL, 0, 1, -1, 0, 0);
        }
        return x;
    }

    /** Behind that, node 0 has the VOTEs of both in round 0. */
    static Play twoVoted(Due due, String coins) {
        Play x = twoDelivered(due, coins);
        x.reaches(0, 0, 0, VOTE);
        x.reaches(0, 1, 0, VOTE);
        x.shows(0, 0, 7, PROPOSAL, 0, 1, -1, 0, 0);
        return x;
    }

    /** Behind that, both are sure of 1 in round 0, and node 0 has the SUREs of both. */
    static Play twoSure(Due due, String coins) {
        Play x = twoVoted(due, coins);
        x.hears(0, 0, 0, VOTE, 0, 1);
        x.hears(1, 0, 0, VOTE, 0, 1);
        x.flow((node, m) -> node < 2 && m.instance == 0);
        for (int node = 0; node < 2; node++) {
            x.shows(node, 0, 7, PROPOSAL, 0, 1, -1, 0, 2);
        }
        return x;
    }

    /**
     * The nodes 0, 1 and 2 have decided 1 for the instances 0 and 1, and have sent READY about the traitor's proposal.
     * Some (one bit for each) have then delivered that, so that it has the input 1, others have decided 1 for the instance
     * 2, so that it has the input 0; the rest have done neither. Their VOTEs about it are on the way.
     */
    static Play split(Due due, String coinsOfTraitor, int delivering, int refusing) {
        Play x = new Play(due, Seeds.with("111111 111111 111111" + coinsOfTraitor + "1111111")).betray();
        for (int node = 0; node < 3; node++) {
            x.yes().speak(node, 0, 3, VALUE, ROOT, WITNESSES[node]);
        }
        x.flow((node, m) -> node < 3 && (m.instance < 2 || m.instance == 2 && m.kind < SURE || m.kind < READY));
        x.flow((node, m) -> (delivering >> node & 1) == 1 && m.instance == 3 && m.kind == READY);
        x.flow((node, m) -> (refusing >> node & 1) == 1 && m.instance == 2 && m.kind == SURE);
        for (int node = 0; node < 3; node++) {
            boolean isDelivering = (delivering >> node & 1) == 1;
            boolean isRefusing = (refusing >> node & 1) == 1;
            x.shows(node, 3, isDelivering ? 7 : 3, isDelivering ? PROPOSAL : -1, isDelivering || isRefusing ? 0 : -1,
                isDelivering ? 1 : isRefusing ? 0 : -1, -1, 0, 0);
        }
        return x;
    }
}
