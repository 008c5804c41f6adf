/** Sentences of 'Terms' about how a node goes on: one sender too few and just enough, for each rule, and the rounds' ends. */
public final class TermsRulesTest {
    private static final int VALUE = Scenes.VALUE;
    private static final int ECHO = Scenes.ECHO;
    private static final int READY = Scenes.READY;
    private static final int VOTE = Scenes.VOTE;
    private static final int SURE = Scenes.SURE;
    private static final int ROOT = Scenes.ROOT;

    // ---- rules 1 to 4

    @Sentence(promise = 12, says = "Terms: 1. It has the VALUE of the instance, and has sent no ECHO: it sends an ECHO.")
    static void echo(Due due) {
        Play x = new Play(due, 5).begin(0, 1);
        x.shows(1, 0, 0);
        x.reaches(1, 0, 0, VALUE);
        x.shows(1, 0, 1);
        x.shows(1, 1, 0);
        x.gives(3).waiting(0);
        x.gives(ECHO).deliver(0, 2);
    }

    @Sentence(promise = 12, says = "Terms: 2. there are ECHOs of three senders with one root: two are too few.")
    static void threeEchoes(Due due) {
        Play x = new Play(due, Seeds.ALL_ZERO).begin(0, 1, 2, 3);
        x.flow((node, m) -> m.instance == 2 && m.kind == VALUE);
        x.reaches(0, 3, 2, ECHO);
        x.reaches(0, 1, 2, ECHO);
        x.shows(0, 2, 1);
        x.gives(3 + 2).waiting(0);
        x.reaches(0, 2, 2, ECHO);
        x.shows(0, 2, 3);
        x.gives(3 + 1 + 1).waiting(0);
        x.gives(READY).deliver(0, 4);
    }

    @Sentence(promise = 12, says = "Terms: 2. ECHOs of three senders with one root: two and one with another are not.")
    static void echoesWithTwoRoots(Due due) {
        Play x = Scenes.twoEchoes(due);
        x.hears(0, 0, 0, ECHO, Scenes.OTHER_ROOT, Scenes.witness(3, Scenes.OTHER_PARTS));
        x.shows(0, 0, 1);
        x.reaches(2, 0, 0, VALUE);
        x.reaches(0, 2, 0, ECHO);
        x.shows(0, 0, 3);
    }

    @Sentence(promise = 12, says = "Terms: 2. with one root, which their bytes make: otherwise there is no READY.")
    static void echoesThatDoNotMakeTheRoot(Due due) {
        Play x = new Play(due, Seeds.ALL_ZERO).betray();
        for (int node = 0; node < 3; node++) {
            x.hears(node, 0, 3, VALUE, Scenes.ODD_ROOT, Scenes.witness(node, Scenes.ODD_BYTES));
        }
        x.hears(0, 0, 3, ECHO, Scenes.ODD_ROOT, Scenes.witness(3, Scenes.ODD_BYTES));
        x.hears(0, 0, 3, READY, Scenes.ODD_ROOT, 0);
        x.flow((node, m) -> m.instance == 3 && m.kind == ECHO);
        for (int node = 0; node < 3; node++) {
            x.shows(node, 3, 1, -1);
        }
    }

    /** The bytes of a proposal but for one node's: two of the three senders still fit together. */
    @Sentence(promise = 12,
        says = "Terms: ECHOs with a root MAKE it if the proposal of the two least senders has this root: one wrong byte is enough.")
    static void oneWrongByte(Due due) {
        for (int wrong = 0; wrong < 4; wrong++) {
            int[] bytes = Scenes.PARTS.clone();
            bytes[wrong] ^= 1;
            Play x = new Play(due, Seeds.ALL_ZERO).betray();
            for (int node = 0; node < 3; node++) {
                x.hears(node, 0, 3, VALUE, LedgerModel.rootOf(bytes), Scenes.witness(node, bytes));
            }
            x.flow((node, m) -> m.instance == 3 && m.kind == ECHO);
            for (int node = 0; node < 3; node++) {
                x.shows(node, 3, 1);
            }
        }
    }

    @Sentence(promise = 12, says = "Terms: 2. There are READYs of two senders with one root: one is too few.")
    static void twoReadies(Due due) {
        Play x = new Play(due, Seeds.ALL_ZERO).begin(0, 1, 2, 3);
        x.flow((node, m) -> node < 3 && m.instance == 0 && m.kind <= ECHO);
        x.reaches(3, 2, 0, READY);
        x.shows(3, 0, 0);
        x.reaches(3, 1, 0, READY);
        x.shows(3, 0, 2);
    }

    @Sentence(promise = 12, says = "Terms: 2. READYs of two senders with one root: two with two roots are not.")
    static void readiesWithTwoRoots(Due due) {
        for (int root : new int[] {77, 0, -1, Integer.MAX_VALUE, Integer.MIN_VALUE}) {
            Play x = new Play(due, Seeds.ALL_ZERO).begin(0, 1, 2);
            x.yes().betray();
            x.flow((node, m) -> node < 2 && m.instance == 0 && m.kind == VALUE);
            for (int node = 0; node < 2; node++) {
                int[] bytes = {0, 0, 0, 0};
                x.hears(node, 0, 0, ECHO, LedgerModel.rootOf(bytes), Scenes.witness(3, bytes));
            }
            x.flow((node, m) -> node < 2 && m.instance == 0 && m.kind == ECHO);
            x.hears(2, 0, 0, READY, root, 0);
            x.shows(2, 0, 0);
            x.reaches(2, 0, 0, READY);
            x.shows(2, 0, 0);
            x.reaches(2, 1, 0, READY);
            x.shows(2, 0, 2);
        }
    }

    @Sentence(promise = 12, says = "Terms: 3. READYs of three senders with one root: one with another root is none of them.")
    static void thirdReadyWithAnotherRoot(Due due) {
        Play x = new Play(due, Seeds.ALL_ZERO).begin(0, 1, 2, 3);
        x.flow((node, m) -> node < 3 && m.instance == 0 && m.kind <= ECHO);
        x.yes().betray();
        x.hears(2, 0, 0, READY, 77, 0);
        x.reaches(2, 0, 0, READY);
        x.reaches(2, 1, 0, READY);
        x.shows(2, 0, 3, -1);
        x.reaches(2, 2, 0, READY);
        x.shows(2, 0, 7, 0);
    }

    /** One READY of a loyal node and one of the traitor reach the idle node 2, then it begins. */
    @Sentence(promise = 12,
        says = "Terms: 2. READYs of two senders with one root: kept ones of two roots are not, kept ones of one root are.")
    static void keptReadies(Due due) {
        for (int spoken : new int[] {77, LedgerModel.rootOf(LedgerModel.parts(0, 0))}) {
            Play x = new Play(due, Seeds.ALL_ZERO).begin(0, 1, 3);
            x.flow((node, m) -> node != 2 && m.instance == 0 && m.kind <= ECHO);
            x.yes().betray();
            x.reaches(2, 1, 0, READY);
            x.hears(2, 0, 0, READY, spoken, 0);
            x.begin(2);
            x.shows(2, 0, spoken == 77 ? 0 : 2);
        }
    }

    @Sentence(promise = 12, says = "Terms: 3. there are READYs of three senders and ECHOs of two: two READYs are too few.")
    static void threeReadies(Due due) {
        Play x = new Play(due, Seeds.ALL_ZERO).submit(0, 200, 77).begin(0, 1, 2, 3);
        x.flow((node, m) -> m.instance == 0 && m.kind <= ECHO);
        x.reaches(1, 3, 0, READY);
        x.reaches(1, 0, 0, READY);
        x.shows(1, 0, 3, -1, -1, -1);
        x.reaches(1, 2, 0, READY);
        x.shows(1, 0, 7, 200 + 256 * 77, 0, 1);
    }

    @Sentence(promise = 12,
        says = "Terms: 3. there are READYs of three senders and ECHOs of two: one ECHO is too few; any two give the proposal.")
    static void twoEchoesOfAnySenders(Due due) {
        for (int k = 0; k < 4; k++) {
            for (int l = 0; l < 4; l++) {
                if (k != l) {
                    for (int[] proposal : new int[][] {{200, 77}, {1, 255}, {255}, {3, 2}, {}}) {
                        twoEchoesOf(due, k, l, proposal);
                    }
                }
            }
        }
    }

    private static void twoEchoesOf(Due due, int k, int l, int... proposal) {
        Play x = new Play(due, Seeds.ALL_ZERO).submit(0, proposal).begin(0, 1, 2, 3);
        x.flow((node, m) -> m.instance == 0 && (m.kind == VALUE || m.kind == ECHO && node < 3));
        for (int sender = 0; sender < 3; sender++) {
            x.reaches(3, sender, 0, READY);
        }
        x.shows(3, 0, 3, -1);
        x.reaches(3, k, 0, ECHO);
        x.shows(3, 0, 3, -1);
        x.reaches(3, l, 0, ECHO);
        int p = proposal.length > 0 ? proposal[0] : 0;
        int q = proposal.length > 1 ? proposal[1] : 0;
        x.shows(3, 0, 7, p + 256 * q, 0, 1);
    }

    @Sentence(promise = 12,
        says = "Terms: 3. READYs of three senders and ECHOs of two with one root: an ECHO with another root is none of them.")
    static void echoWithAnotherRoot(Due due) {
        Play x = new Play(due, Seeds.ALL_ZERO).submit(0, 10, 20).begin(0, 1, 2);
        x.yes().betray();
        x.flow((node, m) -> node < 2 && m.instance == 0 && m.kind == VALUE);
        x.hears(0, 0, 0, ECHO, ROOT, Scenes.WITNESSES[3]);
        x.hears(1, 0, 0, ECHO, ROOT, Scenes.WITNESSES[3]);
        x.flow((node, m) -> node < 2 && m.instance == 0 && m.kind == ECHO);
        x.reaches(2, 0, 0, READY);
        x.reaches(2, 1, 0, READY);
        x.reaches(2, 2, 0, READY);
        x.hears(2, 0, 0, ECHO, Scenes.OTHER_ROOT, Scenes.witness(3, Scenes.OTHER_PARTS));
        x.reaches(2, 1, 0, ECHO);
        x.shows(2, 0, 2, -1);
        x.reaches(2, 0, 0, ECHO);
        x.shows(2, 0, 6, Scenes.PROPOSAL);
    }

    @Sentence(promise = 12,
        says = "Terms: 4. A proposal is delivered, and the node has given the agreement no INPUT: its input is 1.")
    static void inputOne(Due due) {
        Play x = Scenes.split(due, "111111", 1, 2);
        x.gives(1).instance(0, 3, 3);
        x.flow((node, m) -> node == 1 && m.instance == 3 && m.kind == READY);
        x.shows(1, 3, 7, Scenes.PROPOSAL, 0, 0, -1, 0, 0);
    }

    // ---- rule 5

    @Sentence(promise = 12, says = "Terms: 5. a. it has sent no VOTE with the estimate: it sends it.")
    static void voteWithTheEstimate(Due due) {
        Play x = new Play(due, Seeds.ALL_ZERO).begin(0, 1, 2);
        x.flow((node, m) -> m.instance == 1 && m.kind <= ECHO);
        x.reaches(0, 0, 1, READY);
        x.reaches(0, 1, 1, READY);
        int before = x.does().waiting(3);
        x.reaches(0, 2, 1, READY);
        x.shows(0, 1, 7, 0, 0, 1, -1, 0, 0);
        x.gives(before + 1).waiting(3);
        x.gives(VOTE).deliver(3, before);
    }

    /** Node 0 has the input 1, node 1 the input 0. */
    @Sentence(promise = 12,
        says = "Terms: 5. b. VOTEs with a bit are there of two senders, and it has sent none with that: it sends it.")
    static void voteByTwoVotes(Due due) {
        for (int node = 0; node < 2; node++) {
            int other = 1 - node;
            Play x = Scenes.split(due, "111111", 1, 2);
            int before = x.does().waiting(2);
            x.hears(node, 0, 3, VOTE, 0, node);
            x.hears(node, 0, 3, VOTE, 0, node);
            x.gives(before).waiting(2);
            x.reaches(node, other, 3, VOTE);
            x.gives(before + 1).waiting(2);
            x.gives(VOTE).deliver(2, before);
            x.shows(node, 3, node == 0 ? 7 : 3, node == 0 ? Scenes.PROPOSAL : -1, 0, 1 - node, -1, 0, 0);
        }
    }

    @Sentence(promise = 12,
        says = "Terms: 5. c. VOTEs with a bit are there of three senders, and it is not GOOD: it is good: two are too few.")
    static void goodByThreeVotes(Due due) {
        Play x = Scenes.twoVoted(due, "");
        x.gives(0).instance(0, 0, 6);
        int before = x.does().waiting(2);
        x.hears(0, 0, 0, VOTE, 0, 1);
        x.gives(2).instance(0, 0, 6);
        x.gives(before + 1).waiting(2);
        x.gives(SURE).deliver(2, before);
    }

    /** The nodes 0 and 1 and the traitor have sent VOTEs with both bits; they reach node 2, which has no input. */
    private static Play bothBitsBeforeTheInput(Due due, String coinsOfTraitor) {
        Play x = Scenes.split(due, coinsOfTraitor, 2, 1);
        x.reaches(0, 1, 3, VOTE);
        x.hears(0, 0, 3, VOTE, 0, 1);
        x.reaches(1, 0, 3, VOTE);
        x.hears(1, 0, 3, VOTE, 0, 0);
        for (int bit = 0; bit < 2; bit++) {
            x.hears(2, 0, 3, VOTE, 0, bit);
            x.reaches(2, 0, 3, VOTE);
            x.reaches(2, 1, 3, VOTE);
        }
        x.shows(2, 3, 3, -1, -1, -1, -1, 0, 0);
        return x;
    }

    /** Node 0 has 0 as its only good bit, and SUREs with 0 of itself and the traitor: that of node 2 is the third. */
    @Sentence(promise = 12,
        says = "Terms: 5. c. it is good (0 first). it sends SURE with the bit that became good first: 0 of both at once.")
    static void zeroFirst(Due due) {
        Play x = bothBitsBeforeTheInput(due, "111111");
        int before = x.does().waiting(0);
        x.flow((node, m) -> node == 2 && m.instance == 3 && m.kind == READY);
        x.shows(2, 3, 7, Scenes.PROPOSAL, 0, 1, -1, 0, 3);
        x.gives(before + 3).waiting(0);
        x.flow((node, m) -> node == 0 && m.sender == 1 && m.instance == 3 && m.kind == VOTE);
        x.hears(0, 0, 3, VOTE, 0, 0);
        x.reaches(0, 0, 3, VOTE);
        x.gives(1).instance(0, 3, 6);
        x.reaches(0, 0, 3, SURE);
        x.hears(0, 0, 3, SURE, 0, 0);
        x.gives(0).instance(0, 3, 2);
        x.reaches(0, 2, 3, SURE);
        x.gives(1).instance(0, 3, 2);
    }

    /** At node 0 the bit 1 becomes good before 0 does; its SURE is the third with 1 at node 1, where 1 alone is good. */
    @Sentence(promise = 12,
        says = "Terms: 5. c. it sends SURE with the bit that became good first: 1, though 0 is good, too, later on.")
    static void oneFirst(Due due) {
        Play x = Scenes.split(due, "000000", 6, 1);
        x.reaches(0, 1, 3, VOTE);
        x.reaches(0, 2, 3, VOTE);
        x.hears(0, 0, 3, VOTE, 0, 1);
        x.gives(2).instance(0, 3, 6);
        x.reaches(1, 1, 3, VOTE);
        x.reaches(1, 2, 3, VOTE);
        x.hears(1, 0, 3, VOTE, 0, 1);
        x.reaches(1, 1, 3, SURE);
        x.hears(1, 0, 3, SURE, 0, 1);
        x.shows(1, 3, 7, Scenes.PROPOSAL, 0, 1, -1, 0, 2);
        x.reaches(1, 0, 3, SURE);
        x.shows(1, 3, 7, Scenes.PROPOSAL, 1, 1, -1, 0, 0);
    }

    @Sentence(promise = 12,
        says = "Terms: 5. d. SUREs with good bits are there of three senders: the round is finished: two are too few.")
    static void threeSures(Due due) {
        Play x = Scenes.twoSure(due, "");
        x.gives(0).instance(0, 0, 2);
        x.hears(0, 0, 0, SURE, 0, 1);
        x.shows(0, 0, 7, Scenes.PROPOSAL, 1, 1, -1, 0, 0);
    }

    /** Node 0 has the SUREs 1, 1 and 0; they count together as soon as 0 is good, too. */
    @Sentence(promise = 12,
        says = "Terms: 5. d. SUREs with good bits: one with a bit that is not good does not count before it is.")
    static void sureWithABitThatIsNotGood(Due due) {
        Play x = Scenes.split(due, "000000", 3, 4);
        x.reaches(0, 0, 3, VOTE);
        x.reaches(0, 1, 3, VOTE);
        x.hears(0, 0, 3, VOTE, 0, 1);
        x.reaches(1, 0, 3, VOTE);
        x.reaches(1, 1, 3, VOTE);
        x.hears(1, 0, 3, VOTE, 0, 1);
        x.reaches(0, 0, 3, SURE);
        x.reaches(0, 1, 3, SURE);
        x.hears(0, 0, 3, SURE, 0, 0);
        x.shows(0, 3, 7, Scenes.PROPOSAL, 0, 1, -1, 0, 2);
        x.reaches(0, 2, 3, VOTE);
        x.hears(0, 0, 3, VOTE, 0, 0);
        x.shows(0, 3, 7, Scenes.PROPOSAL, 0, 1, -1, 0, 2);
        x.reaches(0, 0, 3, VOTE);
        x.shows(0, 3, 7, Scenes.PROPOSAL, 1, 0, -1, 0, 0);
    }

    /** Node 2 has good 0 and its own SURE 0; the SUREs of all others are with 1, which becomes good at last. */
    private static Play threeToOne(Due due, String coinsOfTraitor) {
        Play x = Scenes.split(due, coinsOfTraitor, 6, 1);
        for (int node = 0; node < 2; node++) {
            x.reaches(node, 1, 3, VOTE);
            x.reaches(node, 2, 3, VOTE);
            x.hears(node, 0, 3, VOTE, 0, 1);
            x.gives(2).instance(node, 3, 6);
        }
        x.reaches(1, 0, 3, VOTE);
        x.hears(1, 0, 3, VOTE, 0, 0);
        x.reaches(2, 0, 3, VOTE);
        x.hears(2, 0, 3, VOTE, 0, 0);
        x.reaches(2, 1, 3, VOTE);
        x.reaches(2, 1, 3, VOTE);
        x.gives(1).instance(2, 3, 6);
        for (int sender = 0; sender < 3; sender++) {
            x.reaches(2, sender, 3, SURE);
        }
        x.hears(2, 0, 3, SURE, 0, 1);
        x.gives(0).instance(2, 3, 2);
        x.reaches(2, 2, 3, VOTE);
        x.gives(0).instance(2, 3, 2);
        x.reaches(2, 0, 3, VOTE);
        return x;
    }

    @Sentence(promise = 12,
        says = "Terms: 5. d. if all these SUREs (not only three of them) have one bit; otherwise the estimate is c: 1.")
    static void notOnlyThreeOfThemWithCoinOne(Due due) {
        Play x = threeToOne(due, "111111");
        x.shows(2, 3, 7, Scenes.PROPOSAL, 1, 1, -1, 0, 0);
    }

    @Sentence(promise = 12,
        says = "Terms: 5. d. if all these SUREs (not only three of them) have one bit; otherwise the estimate is c: 0.")
    static void notOnlyThreeOfThemWithCoinZero(Due due) {
        Play x = threeToOne(due, "000000");
        x.shows(2, 3, 7, Scenes.PROPOSAL, 1, 0, -1, 0, 0);
    }

    @Sentence(promise = 12,
        says = "Terms: 5. d. the estimate is that, and if c is it, too, and nothing is DECIDED, it is decided.")
    static void decidedByTheCoin(Due due) {
        for (int coin = 0; coin < 2; coin++) {
            Play x = Scenes.twoSure(due, coin == 1 ? "1" : "0");
            x.gives(coin).coin(0, 0, 0);
            x.hears(0, 0, 0, SURE, 0, 1);
            x.shows(0, 0, 7, Scenes.PROPOSAL, 1, 1, coin == 1 ? 1 : -1, 0, 0);
        }
    }

    /** Three loyal nodes, all SUREs with 1; instance 3 keeps them in the epoch, as its coins are 1 and its input is 0. */
    private static Play threeNodes(Due due, String first, String second, String third) {
        Play x = new Play(due, Seeds.with(first + second + third + "1111111111111")).begin(0, 1, 2);
        x.flow((node, m) -> node < 3);
        return x;
    }

    @Sentence(promise = 12,
        says = "Terms: 5. d. If something was decided in an earlier round and c is that, the agreement is done.")
    static void doneByTheCoin(Due due) {
        Play x = threeNodes(due, "110000", "010100", "100010");
        for (int node = 0; node < 3; node++) {
            x.shows(node, 0, 7, 0, 1, 1, 1, 1, 2);
            x.shows(node, 1, 7, 0, 3, 1, 1, 1, 2);
            x.shows(node, 2, 7, 0, 4, 1, 1, 1, 2);
        }
    }

    @Sentence(promise = 12,
        says = "Terms: 5. d. or it was round 5, the agreement is done: decided before, in it, or not at all. ROUNDS 0 .. 5.")
    static void doneByRoundFive(Due due) {
        Play x = threeNodes(due, "100000", "000001", "000010");
        for (int node = 0; node < 3; node++) {
            x.shows(node, 0, 7, 0, 5, 1, 1, 1, 2);
            x.shows(node, 1, 7, 0, 5, 1, 1, 1, 2);
            x.shows(node, 2, 7, 0, 5, 1, 1, 1, 2);
        }
        Play y = threeNodes(due, "000000", "000011", "100001");
        for (int node = 0; node < 3; node++) {
            y.shows(node, 0, 7, 0, 5, 1, -1, 1, 2);
            y.shows(node, 1, 7, 0, 5, 1, 1, 1, 2);
            y.shows(node, 2, 7, 0, 5, 1, 1, 1, 2);
            y.gives(0).epoch(node);
            y.gives(0).waiting(node);
        }
    }

    @Sentence(promise = 12, says = "Terms: 5. the agreement is not DONE: when it is, nothing more is sent about it.")
    static void nothingBehindDone(Due due) {
        Play x = Scenes.twoSure(due, "1");
        for (int node = 0; node < 2; node++) {
            for (int round = 1; round <= 5; round++) {
                x.yes().speak(node, 0, 0, VOTE, round, 1);
                x.yes().speak(node, 0, 0, SURE, round, 1);
            }
            x.hears(node, 0, 0, SURE, 0, 1);
        }
        x.flow((node, m) -> node < 2 && m.instance == 0);
        for (int node = 0; node < 2; node++) {
            x.shows(node, 0, 7, Scenes.PROPOSAL, 5, 1, 1, 1, 2);
        }
        int before = x.does().waiting(2);
        for (int node = 0; node < 2; node++) {
            x.hears(node, 0, 0, VOTE, 5, 0);
            x.hears(node, 0, 0, SURE, 5, 0);
        }
        x.gives(before).waiting(2);
        x.shows(0, 0, 7, Scenes.PROPOSAL, 5, 1, 1, 1, 2);
    }

    private static void votes(Play x, int node, int round, int bit, int... senders) {
        for (int sender : senders) {
            if (sender == 3) {
                x.hears(node, 0, 3, VOTE, round, bit);
            }
            x.flow((n, m) -> n == node && m.sender == sender && m.instance == 3 && m.kind == VOTE
                && m.a == round && m.b[0] == bit);
        }
    }

    /** Of a round, nodes 1 and 2 have good 1, node 0 has both good; then they have the SUREs of 0, 1, 2, and of 1, 2, 3. */
    private static void mixedRound(Play x, int round) {
        votes(x, 1, round, 1, 1, 2, 3);
        votes(x, 2, round, 1, 1, 2, 3);
        votes(x, 1, round, 0, 0, 3);
        votes(x, 0, round, 0, 0, 1, 3);
        votes(x, 0, round, 1, 1, 2, 3);
        for (int sender = 0; sender < 3; sender++) {
            x.reaches(0, sender, 3, SURE);
        }
        for (int node = 1; node < 3; node++) {
            x.reaches(node, 1, 3, SURE);
            x.reaches(node, 2, 3, SURE);
            x.hears(node, 0, 3, SURE, round, 1);
        }
    }

    /** All coins are 0: node 0 has it as its estimate round by round, the nodes 1 and 2 have 1, and nothing is decided. */
    @Sentence(promise = 12,
        says = "Terms: 5. not DONE: VOTEs for a bit in round 5 come too late for one that is done. ROUNDS 0 .. 5.")
    static void votesBehindRoundFive(Due due) {
        Play x = Scenes.split(due, "000000", 6, 1);
        for (int round = 0; round < 5; round++) {
            mixedRound(x, round);
            x.shows(0, 3, 3, -1, round + 1, 0, -1, 0, 0);
            x.shows(1, 3, 7, Scenes.PROPOSAL, round + 1, 1, -1, 0, 0);
            x.shows(2, 3, 7, Scenes.PROPOSAL, round + 1, 1, -1, 0, 0);
        }
        votes(x, 1, 5, 1, 1, 2, 3);
        votes(x, 2, 5, 1, 1, 2, 3);
        x.reaches(1, 1, 3, SURE);
        x.reaches(1, 2, 3, SURE);
        x.hears(1, 0, 3, SURE, 5, 1);
        x.shows(1, 3, 7, Scenes.PROPOSAL, 5, 1, -1, 1, 2);
        int before = x.does().waiting(3);
        votes(x, 1, 5, 0, 0, 3);
        x.gives(before).waiting(3);
        x.shows(1, 3, 7, Scenes.PROPOSAL, 5, 1, -1, 1, 2);
    }

    // ---- looking at the whole epoch

    @Sentence(promise = 12,
        says = "Terms: if three agreements have decided 1, and one has no input, it has the input 0: two are too few.")
    static void threeHaveDecidedOne(Due due) {
        Play x = new Play(due, Seeds.ALL_ONE).begin(0, 1, 2);
        x.flow((node, m) -> node < 3 && (m.instance != 1 || m.kind < SURE));
        for (int node = 0; node < 3; node++) {
            x.gives(1).instance(node, 0, 4);
            x.gives(-1).instance(node, 1, 4);
            x.gives(1).instance(node, 2, 4);
            x.shows(node, 3, 0, -1, -1, -1, -1, 0, 0);
        }
        int before = x.does().waiting(3);
        x.reaches(0, 0, 1, SURE);
        x.reaches(0, 1, 1, SURE);
        x.shows(0, 3, 0, -1, -1, -1, -1, 0, 0);
        x.reaches(0, 2, 1, SURE);
        x.gives(1).instance(0, 1, 4);
        x.shows(0, 3, 0, -1, 0, 0, -1, 0, 0);
        x.gives(before + 2).waiting(3);
    }

    @Sentence(promise = 12, says = "Terms: if three agreements have decided 1, and one has no input: any one of the four.")
    static void anyOneWithoutInput(Due due) {
        for (int lacking = 0; lacking < 4; lacking++) {
            Play x = new Play(due, Seeds.ALL_ONE);
            for (int node = 0; node < 4; node++) {
                if (node != lacking) {
                    x.begin(node);
                }
            }
            int idle = lacking;
            x.flow((node, m) -> node != idle && m.epoch == 0 && m.a != 1);
            for (int node = 0; node < 4; node++) {
                if (node != lacking) {
                    x.gives(0).instance(node, lacking, 3);
                }
            }
        }
    }

    /** Node 2 has decided 1 for two instances and 0 for the traitor's: the instance 2 is not refused. */
    @Sentence(promise = 12, says = "Terms: if three agreements have decided 1: one that decided 0 is none of them.")
    static void decidedZeroIsNotOne(Due due) {
        Play x = new Play(due, Seeds.with("111111 111111 111111 000000 1111111")).betray();
        for (int node = 0; node < 3; node++) {
            x.yes().speak(node, 0, 3, VALUE, ROOT, Scenes.WITNESSES[node]);
            x.yes().speak(node, 0, 2, VOTE, 0, 1);
            x.yes().speak(node, 0, 2, SURE, 0, 1);
        }
        x.flow((node, m) -> node < 3 && (m.instance == 3 ? m.kind < READY : node < 2 || m.instance < 2 || m.kind < READY));
        x.gives(0).instance(0, 3, 3);
        x.gives(0).instance(1, 3, 3);
        x.flow((node, m) -> node == 2 && m.instance == 3 && m.kind == READY);
        for (int node = 0; node < 3; node++) {
            x.hears(node, 0, 3, VOTE, 0, 0);
        }
        x.flow((node, m) -> node < 3 && m.epoch == 0 && m.instance == 3 && m.kind == VOTE);
        x.hears(2, 0, 3, SURE, 0, 0);
        x.flow((node, m) -> node == 2 && m.epoch == 0 && m.instance == 3 && m.kind == SURE);
        x.gives(1).instance(2, 0, 4);
        x.gives(1).instance(2, 1, 4);
        x.gives(0).instance(2, 3, 4);
        x.shows(2, 2, 3, -1, -1, -1, -1, 0, 0);
        x.gives(0).epoch(2);
    }

    @Sentence(promise = 8, says = "Terms: if all four have decided, it COMMITS: three are too few.")
    static void allFourDecided(Due due) {
        Play x = new Play(due, Seeds.ALL_ONE).submit(0, 9).begin(0, 1, 2, 3);
        x.flow((node, m) -> m.epoch == 0 && (m.instance != 3 || m.kind < SURE));
        for (int instance = 0; instance < 3; instance++) {
            x.gives(1).instance(0, instance, 4);
        }
        for (int sender = 3; sender > 0; sender--) {
            x.gives(0).epoch(0);
            x.gives(-1).instance(0, 3, 4);
            x.hasLedger(0);
            x.reaches(0, sender, 3, SURE);
        }
        x.gives(1).epoch(0);
        x.hasLedger(0, 9);
    }

    /** Node 0 has refused the traitor's proposal, but 1 is decided; the READYs about it come late. */
    @Sentence(promise = 8, says = "Terms: and for each that decided 1 a proposal is delivered, it COMMITS: not before.")
    static void commitWaitsForTheProposal(Due due) {
        Play x = Scenes.split(due, "111111", 6, 1);
        for (int node = 0; node < 3; node++) {
            x.hears(node, 0, 3, VOTE, 0, 1);
            x.hears(node, 0, 3, SURE, 0, 1);
        }
        x.flow((node, m) -> node < 3 && m.epoch == 0 && m.instance == 3 && m.kind >= VOTE && m.b[0] == 1 && m.a == 0);
        x.shows(0, 3, 3, -1, 1, 1, 1, 0, 0);
        x.gives(0).epoch(0);
        x.reaches(0, 0, 3, READY);
        x.reaches(0, 1, 3, READY);
        x.gives(0).epoch(0);
        x.hasLedger(0);
        x.reaches(0, 2, 3, READY);
        x.gives(1).epoch(0);
        x.hasLedger(0, 10, 20);
    }

    @Sentence(promise = 8, says = "Terms: for each that decided 1 a proposal is delivered: one that decided 0 needs none.")
    static void commitWithoutARefusedProposal(Due due) {
        Play x = new Play(due, Seeds.with("111111 111111 111111 000000 1111111")).submit(2, 4).begin(0, 1, 2);
        x.flow((node, m) -> node < 3 && m.epoch == 0);
        for (int node = 0; node < 3; node++) {
            x.gives(1).epoch(node);
            x.hasLedger(node, 4);
        }
    }

    @Sentence(promise = 8, says = "Terms: it is in the next epoch: it sends a VALUE there at once.")
    static void valueInTheNextEpoch(Due due) {
        Play x = new Play(due, Seeds.ALL_ONE).begin(0, 1, 2, 3);
        x.flow((node, m) -> m.kind < SURE);
        x.flow((node, m) -> node == 0 && m.kind == SURE && m.instance < 3);
        x.reaches(0, 0, 3, SURE);
        x.reaches(0, 1, 3, SURE);
        x.gives(0).epoch(0);
        int before = x.does().waiting(3);
        x.reaches(0, 2, 3, SURE);
        x.gives(1).epoch(0);
        x.shows(0, 0, 0);
        x.gives(before + 2).waiting(3);
        x.gives(VOTE).deliver(3, before);
        x.gives(VALUE).deliver(3, before);
    }

    @Sentence(promise = 8, says = "Terms: or over behind the last one: it sends nothing more.")
    static void nothingWhenOver(Due due) {
        Play x = new Play(due, Seeds.ALL_ONE).begin(0, 1, 2, 3);
        x.flow((node, m) -> m.epoch < 3 || m.kind < SURE);
        x.gives(3).epoch(0);
        int before = x.does().waiting(3);
        x.flow((node, m) -> node == 0 && m.kind == SURE && m.instance < 3);
        int sent = x.does().waiting(3) - before;
        due.is("VOTEs of three instances in round 1", 3, sent);
        x.reaches(0, 0, 3, SURE);
        x.reaches(0, 1, 3, SURE);
        x.gives(3).epoch(0);
        x.reaches(0, 2, 3, SURE);
        x.gives(4).epoch(0);
        x.gives(before + 4).waiting(3);
        x.gives(VOTE).deliver(3, before + 3);
    }

    public static void main(String[] args) throws IllegalAccessException {
        Sentences.test(TermsRulesTest.class);
    }
}
