/** One method or more for each promise of the document, with answers worked out by hand. */
public final class PromisesTest {
    /** With this seed every coin is 0, so that the input 1 is never decided. */
    private static final int NO_LUCK = 0;
    /** With this seed the coin of round 0 of each instance of epoch 0 is 1, and all loyal nodes get over. */
    private static final int LUCK = 131;

    /** The root of the proposal 10, 20, and the witnesses for the four nodes. */
    private static final int ROOT = -684694265;
    private static final int[] WITNESSES = {218121994, 218138132, -1357723338, -1357729752};
    /** The root of the bytes 1, 2, 3, 4, which are no proposal's parts, and the witnesses for the four nodes. */
    private static final int ODD_ROOT = 318496131;
    private static final int[] ODD_WITNESSES = {-1755543295, -1755535614, -1874834173, -1874826492};

    private static final Due DUE = new Due();

    private static EpochLedger begun(int seed, int number) {
        EpochLedger x = new EpochLedger(seed);
        for (int node = 0; node < number; node++) {
            DUE.yes("begin(" + node + ")", x.begin(node));
        }
        return x;
    }

    private static EpochLedger betrayed(int seed) {
        EpochLedger x = begun(seed, 3);
        DUE.yes("betray()", x.betray());
        return x;
    }

    private static void runAll(EpochLedger x, int turns) {
        for (int turn = 0; turn < turns; turn++) {
            for (int node = 0; node < 4; node++) {
                x.run(node, 60);
            }
        }
    }

    private static void whats(EpochLedger x, int node, int instance, int... want) {
        for (int what = 0; what < want.length; what++) {
            DUE.is("instance(" + node + ", " + instance + ", " + what + ")", want[what], x.instance(node, instance, what));
        }
    }

    private static void newObject() {
        EpochLedger x = new EpochLedger(17);
        for (int node = 0; node < 4; node++) {
            DUE.is("epoch of a new object", -1, x.epoch(node));
            DUE.is("ledger of a new object", 0, x.ledger(node, -1));
            DUE.is("queue of a new object", 0, x.queue(node, -1));
            DUE.is("waiting of a new object", 0, x.waiting(node));
            DUE.is("run of a new object", 0, x.run(node, 60));
            DUE.is("deliver of a new object", -1, x.deliver(node, 0));
            whats(x, node, node, -1, -1, -1, -1, -1, -1, -1);
        }
        DUE.no("speak of a new object", x.speak(0, 0, 0, 2, 0, 0));
        DUE.yes("betray of a new object", x.betray());
    }

    private static void submit() {
        EpochLedger x = new EpochLedger(LUCK);
        DUE.no("submit(-1, 1)", x.submit(-1, 1));
        DUE.no("submit(4, 1)", x.submit(4, 1));
        DUE.no("submit(0, 0)", x.submit(0, 0));
        DUE.no("submit(0, 256)", x.submit(0, 256));
        DUE.no("submit(0, -1)", x.submit(0, -1));
        DUE.yes("submit(0, 1)", x.submit(0, 1));
        DUE.yes("submit(0, 255)", x.submit(0, 255));
        DUE.no("submit(0, 255) again", x.submit(0, 255));
        DUE.yes("submit(1, 255)", x.submit(1, 255));
        for (int transaction = 11; transaction <= 20; transaction++) {
            DUE.yes("submit up to 12", x.submit(0, transaction));
        }
        DUE.no("submit of a 13th", x.submit(0, 21));
        DUE.is("queue(0, -1)", 12, x.queue(0, -1));
        DUE.is("queue(0, 11)", 20, x.queue(0, 11));
        DUE.is("queue(1, -1)", 1, x.queue(1, -1));
    }

    private static void submitAndLedger() {
        EpochLedger x = new EpochLedger(LUCK);
        x.submit(0, 9);
        for (int node = 0; node < 4; node++) {
            x.begin(node);
        }
        runAll(x, 6);
        DUE.is("ledger(1, 0)", 9, x.ledger(1, 0));
        DUE.no("submit of what is in the ledger", x.submit(1, 9));
        DUE.is("queue(1, -1)", 0, x.queue(1, -1));
        DUE.yes("submit of another", x.submit(1, 10));
    }

    private static void begin() {
        EpochLedger x = new EpochLedger(5);
        DUE.no("begin(-1)", x.begin(-1));
        DUE.no("begin(4)", x.begin(4));
        DUE.yes("begin(2)", x.begin(2));
        DUE.no("begin(2) again", x.begin(2));
        DUE.is("epoch(2)", 0, x.epoch(2));
        DUE.is("epoch(1)", -1, x.epoch(1));
        for (int node = 0; node < 4; node++) {
            DUE.is("waiting: one VALUE for each", 1, x.waiting(node));
        }
        whats(x, 2, 2, 0, -1, -1, -1, -1, 0, 0);
        x.betray();
        DUE.no("begin of the traitor", x.begin(3));
        DUE.is("epoch of the traitor", -1, x.epoch(3));
        DUE.yes("begin(0)", x.begin(0));
    }

    private static void beginWithWhatWasKept() {
        EpochLedger x = begun(5, 1);
        DUE.is("run of an idle node", 1, x.run(1, 60));
        DUE.is("waiting: an idle node sends nothing", 1, x.waiting(0));
        DUE.yes("begin(1)", x.begin(1));
        DUE.is("instance: ECHO at once for the VALUE that was kept", 1, x.instance(1, 0, 0));
        DUE.is("waiting: VALUE and ECHO of node 1 are new", 3, x.waiting(0));
        DUE.is("deliver: the VALUE was sent before the ECHO", 0, x.deliver(0, 1));
        DUE.is("deliver: the ECHO", 1, x.deliver(0, 1));
    }

    private static void run() {
        EpochLedger x = begun(5, 1);
        DUE.is("run(-1, 1)", -1, x.run(-1, 1));
        DUE.is("run(4, 1)", -1, x.run(4, 1));
        DUE.is("run(0, -1)", -1, x.run(0, -1));
        DUE.is("run(0, 61)", -1, x.run(0, 61));
        DUE.is("run(0, 0)", 0, x.run(0, 0));
        DUE.is("waiting(0)", 1, x.waiting(0));
        DUE.is("run(0, 60): the VALUE, and the ECHO that comes by it", 2, x.run(0, 60));
        DUE.is("run(0, 60)", 0, x.run(0, 60));
        DUE.is("waiting(3)", 2, x.waiting(3));
        DUE.is("run(3, 1)", 1, x.run(3, 1));
        DUE.is("waiting(3)", 1, x.waiting(3));
    }

    private static void runOrder() {
        EpochLedger x = betrayed(5);
        x.speak(0, 0, 3, 3, 0, 1);
        DUE.is("run(0, 3): the three VALUEs first", 3, x.run(0, 3));
        DUE.is("deliver: then the VOTE", 3, x.deliver(0, 0));
        DUE.is("deliver: then an ECHO", 1, x.deliver(0, 0));
        for (int i = 0; i < 80; i++) {
            DUE.yes("speak", x.speak(1, 3, 0, 2, i, 0));
        }
        DUE.is("run(1, 60)", 60, x.run(1, 60));
        DUE.is("run(1, 60): 86 with the VALUEs and ECHOs of node 0, and three ECHOs of its own", 29, x.run(1, 60));
    }

    private static void deliver() {
        EpochLedger x = begun(5, 3);
        DUE.is("deliver(-1, 0)", -1, x.deliver(-1, 0));
        DUE.is("deliver(4, 0)", -1, x.deliver(4, 0));
        DUE.is("deliver(0, -1)", -1, x.deliver(0, -1));
        DUE.is("deliver(0, 3)", -1, x.deliver(0, 3));
        DUE.is("deliver(0, 1)", 0, x.deliver(0, 1));
        DUE.is("instance(0, 0, 0)", 0, x.instance(0, 0, 0));
        DUE.is("instance(0, 1, 0)", 1, x.instance(0, 1, 0));
        DUE.is("instance(0, 2, 0)", 0, x.instance(0, 2, 0));
        DUE.is("deliver(0, 1): now that of node 2", 0, x.deliver(0, 1));
        DUE.is("instance(0, 2, 0)", 1, x.instance(0, 2, 0));
        DUE.is("waiting(0)", 3, x.waiting(0));
        DUE.is("waiting(1): what reaches one node still waits for the others", 5, x.waiting(1));
    }

    /** Instance 0 among the nodes 0, 1, 2, message by message up to the agreement's input. */
    private static void broadcast() {
        EpochLedger x = new EpochLedger(NO_LUCK);
        x.submit(0, 10);
        x.submit(0, 20);
        x.submit(0, 30);
        for (int node = 0; node < 3; node++) {
            x.begin(node);
        }
        for (int node = 0; node < 3; node++) {
            DUE.is("deliver: the VALUE", 0, x.deliver(node, 0));
            whats(x, node, 0, 1, -1, -1, -1, -1, 0, 0);
        }
        for (int node = 0; node < 2; node++) {
            x.deliver(node, 2);
            x.deliver(node, 2);
            DUE.is("instance: two ECHOs are too few", 1, x.instance(node, 0, 0));
            x.deliver(node, 2);
            DUE.is("instance: READY by three ECHOs", 3, x.instance(node, 0, 0));
        }
        DUE.is("deliver: READY of node 0", 2, x.deliver(2, 5));
        DUE.is("instance: one READY is too few", 1, x.instance(2, 0, 0));
        DUE.is("deliver: READY of node 1", 2, x.deliver(2, 5));
        DUE.is("instance: READY by two READYs", 3, x.instance(2, 0, 0));
        DUE.is("deliver: its own READY", 2, x.deliver(2, 5));
        DUE.is("instance: no ECHO yet", 3, x.instance(2, 0, 0));
        DUE.is("deliver: ECHO of node 2", 1, x.deliver(2, 4));
        DUE.is("instance: one ECHO is too few", 3, x.instance(2, 0, 0));
        DUE.is("waiting(3): 3 VALUEs, 3 ECHOs, 3 READYs", 9, x.waiting(3));
        DUE.is("deliver: ECHO of node 1", 1, x.deliver(2, 3));
        whats(x, 2, 0, 7, 10 + 256 * 20, 0, 1, -1, 0, 0);
        DUE.is("waiting(3): and a VOTE", 10, x.waiting(3));
        DUE.is("run(0, 60): the other two VALUEs with two ECHOs, three READYs, two VOTEs", 9, x.run(0, 60));
        whats(x, 0, 0, 7, 10 + 256 * 20, 0, 1, -1, 0, 0);
        DUE.is("queue(0, -1): nothing is committed", 3, x.queue(0, -1));
    }

    /** The agreement on instance 0 between the nodes 0 and 1 and the traitor; all coins are 0. */
    private static void agreement() {
        EpochLedger x = new EpochLedger(NO_LUCK);
        x.submit(0, 10);
        x.submit(0, 20);
        x.begin(0);
        x.betray();
        x.speak(0, 0, 0, 1, ROOT, WITNESSES[3]);
        x.speak(0, 0, 0, 1, ROOT, WITNESSES[3]);
        x.speak(0, 0, 0, 2, ROOT, 0);
        x.speak(0, 0, 0, 2, ROOT, 0);
        DUE.is("run(0, 60)", 6, x.run(0, 60));
        DUE.is("instance: what a sender says again does not count", 1, x.instance(0, 0, 0));
        x.begin(1);
        x.speak(1, 0, 0, 1, ROOT, WITNESSES[3]);
        x.speak(1, 0, 0, 2, ROOT, 0);
        runAll(x, 4);
        for (int node = 0; node < 2; node++) {
            DUE.is("waiting", 0, x.waiting(node));
            whats(x, node, 0, 7, 10 + 256 * 20, 0, 1, -1, 0, 0);
        }
        speakAndReach(x, 0, 3, 0, 0);
        speakAndReach(x, 0, 3, 0, 0);
        DUE.is("waiting: one VOTE with 0 is not followed", 0, x.waiting(1));
        speakAndReach(x, 0, 3, 0, 1);
        DUE.is("instance: VOTEs of three senders with 1", 2, x.instance(0, 0, 6));
        DUE.is("deliver: a SURE", 4, x.deliver(1, 0));
        speakAndReach(x, 0, 4, 0, 0);
        speakAndReach(x, 0, 4, 0, 1);
        speakAndReach(x, 1, 3, 0, 1);
        runAll(x, 2);
        DUE.is("instance(1, 0, 6)", 2, x.instance(1, 0, 6));
        DUE.is("instance: of three SUREs one has a bit that is not good", 0, x.instance(0, 0, 2));
        DUE.is("instance: two SUREs", 0, x.instance(1, 0, 2));
        speakAndReach(x, 1, 4, 0, 1);
        whats(x, 1, 0, 7, 10 + 256 * 20, 1, 1, -1, 0, 0);
    }

    private static void speakAndReach(EpochLedger x, int node, int kind, int round, int bit) {
        DUE.yes("speak", x.speak(node, 0, 0, kind, round, bit));
        DUE.is("deliver", kind, x.deliver(node, x.waiting(node) - 1));
    }

    /** Four loyal nodes whose coins are all 0: six rounds, and nothing is decided. */
    private static void roundsWithoutLuck() {
        EpochLedger x = begun(NO_LUCK, 4);
        runAll(x, 40);
        for (int node = 0; node < 4; node++) {
            for (int instance = 0; instance < 4; instance++) {
                whats(x, node, instance, 7, 0, 5, 1, -1, 1, 2);
            }
            DUE.is("epoch", 0, x.epoch(node));
            DUE.is("waiting", 0, x.waiting(node));
        }
    }

    /** Nodes 0, 1 and 2 decide 1 for their own instances; then the traitor's gets the input 0. */
    private static void refusal() {
        EpochLedger x = betrayed(LUCK);
        for (int instance = 0; instance < 3; instance++) {
            DUE.is("coin(0, i, 0)", 1, x.coin(0, instance, 0));
        }
        int turns = 0;
        while (x.instance(0, 3, 2) == -1 && turns < 100) {
            DUE.no("three have decided 1, and there is no input",
                x.instance(0, 0, 4) == 1 && x.instance(0, 1, 4) == 1 && x.instance(0, 2, 4) == 1);
            x.run(1 + turns % 2, 60);
            x.run(0, 1);
            turns++;
        }
        whats(x, 0, 3, 0, -1, 0, 0, -1, 0, 0);
        for (int instance = 0; instance < 3; instance++) {
            DUE.is("instance(0, i, 4)", 1, x.instance(0, instance, 4));
        }
    }

    private static void betray() {
        EpochLedger x = begun(5, 4);
        DUE.is("run(3, 2)", 2, x.run(3, 2));
        DUE.yes("betray()", x.betray());
        DUE.no("betray() again", x.betray());
        DUE.is("waiting(0): four VALUEs and two ECHOs", 6, x.waiting(0));
        DUE.is("run(3, 60)", 4, x.run(3, 60));
        DUE.is("waiting(0): the traitor sends nothing by itself", 6, x.waiting(0));
        DUE.is("epoch(3)", 0, x.epoch(3));
        DUE.is("instance(3, 1, 0)", 1, x.instance(3, 1, 0));
        DUE.is("instance(3, 2, 0): what reaches it does not matter", 0, x.instance(3, 2, 0));
        DUE.no("begin(3)", x.begin(3));
        DUE.yes("submit(3, 4)", x.submit(3, 4));
    }

    private static void speakRefused() {
        EpochLedger x = begun(5, 3);
        DUE.no("speak without a traitor", x.speak(0, 0, 3, 2, 1, 0));
        x.betray();
        DUE.no("speak(-1, ..)", x.speak(-1, 0, 3, 2, 1, 0));
        DUE.no("speak(4, ..)", x.speak(4, 0, 3, 2, 1, 0));
        DUE.no("speak of epoch -1", x.speak(0, -1, 3, 2, 1, 0));
        DUE.no("speak of epoch 4", x.speak(0, 4, 3, 2, 1, 0));
        DUE.no("speak of instance -1", x.speak(0, 0, -1, 2, 1, 0));
        DUE.no("speak of instance 4", x.speak(0, 0, 4, 2, 1, 0));
        DUE.no("speak of kind -1", x.speak(0, 0, 3, -1, 1, 0));
        DUE.no("speak of kind 5", x.speak(0, 0, 3, 5, 1, 0));
        for (int kind = 3; kind <= 4; kind++) {
            DUE.no("speak of round -1", x.speak(0, 0, 3, kind, -1, 0));
            DUE.no("speak of round 6", x.speak(0, 0, 3, kind, 6, 0));
            DUE.no("speak of bit -1", x.speak(0, 0, 3, kind, 0, -1));
            DUE.no("speak of bit 2", x.speak(0, 0, 3, kind, 0, 2));
        }
        DUE.is("waiting(0): only the VALUEs", 3, x.waiting(0));
        for (int kind = 3; kind <= 4; kind++) {
            DUE.yes("speak of round 5, bit 1", x.speak(0, 3, 0, kind, 5, 1));
        }
        for (int kind = 0; kind <= 2; kind++) {
            DUE.yes("speak with any root", x.speak(0, 0, 0, kind, -1, Integer.MIN_VALUE));
        }
        for (int i = 0; i < 295; i++) {
            DUE.yes("speak up to 300", x.speak(i % 4, 0, 3, 3, 0, 0));
        }
        DUE.no("speak for the 301st time", x.speak(0, 0, 3, 3, 0, 0));
    }

    private static void speakOfValues() {
        EpochLedger x = betrayed(NO_LUCK);
        runAll(x, 30);
        int waiting = x.waiting(0);
        x.speak(1, 0, 3, 0, ROOT, WITNESSES[0]);
        x.speak(1, 0, 2, 0, ROOT, WITNESSES[1]);
        x.speak(1, 0, 3, 0, ROOT + 1, WITNESSES[1]);
        DUE.is("waiting: for node 1 alone", 3, x.waiting(1));
        DUE.is("waiting: for node 1 alone", waiting, x.waiting(0));
        DUE.is("run(1, 60)", 3, x.run(1, 60));
        DUE.is("instance: no right witness yet", 0, x.instance(1, 3, 0));
        for (int node = 0; node < 3; node++) {
            x.speak(node, 0, 3, 0, ROOT, WITNESSES[node]);
            DUE.is("deliver: a VALUE", 0, x.deliver(node, x.waiting(node) - 1));
            DUE.is("instance: ECHO", 1, x.instance(node, 3, 0));
        }
        runAll(x, 3);
        DUE.is("instance: the traitor's proposal", 10 + 256 * 20, x.instance(2, 3, 1));
    }

    private static void speakOfNoProposal() {
        EpochLedger x = betrayed(NO_LUCK);
        for (int node = 0; node < 3; node++) {
            x.speak(node, 0, 3, 0, ODD_ROOT, ODD_WITNESSES[node]);
            x.speak(node, 0, 3, 1, ODD_ROOT, ODD_WITNESSES[3]);
            x.speak(node, 0, 3, 2, ODD_ROOT, 0);
        }
        runAll(x, 4);
        for (int node = 0; node < 3; node++) {
            DUE.is("instance: ECHO, but no READY, as the bytes do not make the root", 1, x.instance(node, 3, 0));
        }
    }

    /** What reaches a node for a later epoch is kept, and for an earlier one it is nothing. */
    private static void speakOfOtherEpochs() {
        EpochLedger x = betrayed(LUCK);
        x.speak(0, 1, 3, 0, ROOT, WITNESSES[0]);
        DUE.is("deliver: of a later epoch", 0, x.deliver(0, 3));
        DUE.is("instance(0, 3, 0): nothing of a later epoch", 0, x.instance(0, 3, 0));
        for (int turn = 0; turn < 300 && x.epoch(0) == 0; turn++) {
            x.run(turn % 3, 1);
        }
        DUE.is("epoch(0)", 1, x.epoch(0));
        DUE.is("instance(0, 3, 0): ECHO as soon as it is in that epoch", 1, x.instance(0, 3, 0));
        DUE.is("deliver: the ECHO", 1, x.deliver(3, x.waiting(3) - 1));
        DUE.is("deliver: the VALUE before it", 0, x.deliver(3, x.waiting(3) - 1));
        int waiting = x.waiting(3);
        x.speak(0, 0, 3, 0, ROOT, WITNESSES[0]);
        DUE.is("deliver: of an earlier epoch", 0, x.deliver(0, x.waiting(0) - 1));
        DUE.is("waiting: no ECHO for an earlier epoch", waiting, x.waiting(3));
    }

    private static void epochAndLedger() {
        EpochLedger x = new EpochLedger(LUCK);
        x.submit(0, 200);
        x.submit(0, 5);
        x.submit(0, 77);
        x.submit(1, 5);
        x.submit(1, 100);
        x.submit(3, 7);
        x.submit(3, 200);
        x.submit(3, 1);
        for (int node = 0; node < 4; node++) {
            x.begin(node);
        }
        for (int turn = 0; turn < 400 && x.epoch(3) == 0; turn++) {
            x.run(turn % 4, 8);
        }
        int[] first = {5, 7, 100, 200};
        for (int k = 0; k < first.length; k++) {
            DUE.is("ledger(3, " + k + ")", first[k], x.ledger(3, k));
        }
        DUE.is("queue(3, -1)", 1, x.queue(3, -1));
        DUE.is("queue(3, 0)", 1, x.queue(3, 0));
        runAll(x, 40);
        for (int node = 0; node < 4; node++) {
            DUE.is("epoch: over", 4, x.epoch(node));
            DUE.is("ledger(.., -1)", 6, x.ledger(node, -1));
            DUE.is("ledger: the second epoch's behind the first's", 1, x.ledger(node, 4));
            DUE.is("ledger: the second epoch's behind the first's", 77, x.ledger(node, 5));
            DUE.is("ledger(.., 6)", -1, x.ledger(node, 6));
            DUE.is("ledger(.., -2)", -1, x.ledger(node, -2));
            DUE.is("queue(.., -1)", 0, x.queue(node, -1));
            DUE.is("queue(.., 0)", -1, x.queue(node, 0));
            whats(x, node, 0, -1, -1, -1, -1, -1, -1, -1);
            DUE.no("begin of a node that is over", x.begin(node));
        }
        DUE.yes("submit to a node that is over", x.submit(0, 6));
    }

    private static void wrongNodes() {
        EpochLedger x = begun(5, 4);
        for (int node = -1; node <= 4; node += 5) {
            DUE.is("epoch", -1, x.epoch(node));
            DUE.is("ledger", -1, x.ledger(node, -1));
            DUE.is("queue", -1, x.queue(node, -1));
            DUE.is("waiting", -1, x.waiting(node));
            DUE.is("instance of no node", -1, x.instance(node, 0, 0));
            DUE.is("instance of no instance", -1, x.instance(0, node, 0));
        }
        DUE.is("instance(0, 0, -1)", -1, x.instance(0, 0, -1));
        DUE.is("instance(0, 0, 7)", -1, x.instance(0, 0, 7));
        DUE.is("queue(0, -2)", -1, x.queue(0, -2));
        DUE.is("queue(0, 12)", -1, x.queue(0, 12));
        DUE.is("ledger(0, 32)", -1, x.ledger(0, 32));
    }

    private static void coin() {
        EpochLedger x = new EpochLedger(1);
        // 668265263 is 27D4EB2F, so that h is 27D4A486.
        int[][] want = {{0, 0, 0, 0}, {0, 0, 1, 1}, {0, 0, 2, 1}, {0, 0, 3, 0}, {0, 1, 1, 1}, {0, 1, 4, 1}, {1, 0, 0, 1},
            {1, 0, 3, 0}, {1, 0, 5, 1}, {1, 1, 0, 0}, {1, 1, 1, 0}, {1, 1, 2, 1}, {3, 3, 5, 1}, {3, 3, 4, 1}, {3, 3, 3, 0}};
        for (int[] w : want) {
            DUE.is("coin(" + w[0] + ", " + w[1] + ", " + w[2] + ")", w[3], x.coin(w[0], w[1], w[2]));
        }
        for (int wrong = -1; wrong <= 6; wrong += 7) {
            DUE.is("coin of no epoch", -1, x.coin(wrong, 0, 0));
            DUE.is("coin of no instance", -1, x.coin(0, wrong, 0));
            DUE.is("coin of no round", -1, x.coin(0, 0, wrong));
        }
        DUE.is("coin(4, 0, 0)", -1, x.coin(4, 0, 0));
        DUE.is("coin(0, 4, 0)", -1, x.coin(0, 4, 0));
        // h is D82AA487: an arithmetic shift would turn bit 17.
        DUE.is("coin(0, 2, 5) of -1", 1, new EpochLedger(-1).coin(0, 2, 5));
        DUE.is("coin(0, 3, 0) of -1", 0, new EpochLedger(-1).coin(0, 3, 0));
        DUE.is("coin(0, 0, 0) of -1", 1, new EpochLedger(-1).coin(0, 0, 0));
    }

    private static void root() {
        EpochLedger x = new EpochLedger(3);
        int[][] want = {{0, 0, 1688284447}, {255, 0, 2025176572}, {0, 200, 42429482}, {128, 1, -958169993},
            {255, 255, 1859144582}, {10, 20, ROOT}, {7, 9, -1015360852}, {7 + 256, 9 - 256, -1015360852},
            {Integer.MIN_VALUE, Integer.MAX_VALUE - 55, 42429482}};
        for (int[] w : want) {
            DUE.is("root(" + w[0] + ", " + w[1] + ")", w[2], x.root(w[0], w[1]));
        }
    }

    public static void main(String[] args) {
        newObject();
        submit();
        submitAndLedger();
        begin();
        beginWithWhatWasKept();
        run();
        runOrder();
        deliver();
        broadcast();
        agreement();
        roundsWithoutLuck();
        refusal();
        betray();
        speakRefused();
        speakOfValues();
        speakOfNoProposal();
        speakOfOtherEpochs();
        epochAndLedger();
        wrongNodes();
        coin();
        root();
        DUE.is("NONE", -1, EpochLedger.NONE);
        DUE.end();
    }
}
