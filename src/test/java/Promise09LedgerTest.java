/** Promise 9: ledger. */
public final class Promise09LedgerTest {
    /** All four proposals are committed in epoch 0. */
    private static Play committed(Due due, int[]... queues) {
        Play x = new Play(due, Seeds.ALL_ONE);
        for (int node = 0; node < queues.length; node++) {
            x.submit(node, queues[node]);
        }
        x.begin(0, 1, 2, 3);
        x.flow((node, m) -> m.epoch == 0);
        return x;
    }

    @Sentence(promise = 9, says = "Transaction k of a node's ledger, from 0; how many it has if k is -1.")
    static void transactionK(Due due) {
        Play x = committed(due, new int[] {200, 5}, new int[] {9});
        for (int node = 0; node < 4; node++) {
            x.onlyAnswers(3).ledger(node, -1);
            x.onlyAnswers(5).ledger(node, 0);
            x.onlyAnswers(9).ledger(node, 1);
            x.onlyAnswers(200).ledger(node, 2);
        }
    }

    @Sentence(promise = 9, says = "NONE if there is none: no such k.")
    static void noSuchK(Due due) {
        Play x = committed(due, new int[] {200, 5}, new int[] {9});
        x.refuses().ledger(0, 3);
        x.refuses().ledger(0, -2);
        for (int k : Play.outside(-1, 2)) {
            x.refuses().ledger(0, k);
        }
    }

    @Sentence(promise = 9, says = "NONE if there is none: an empty ledger has none, but -1 tells 0.")
    static void emptyLedger(Due due) {
        Play x = new Play(due, 5).begin(0, 1, 2, 3);
        for (int node = 0; node < 4; node++) {
            x.onlyAnswers(0).ledger(node, -1);
            for (int k : Play.outside(-1, -1)) {
                x.refuses().ledger(node, k);
            }
        }
    }

    @Sentence(promise = 9, says = "NONE if there is none: no such node. Terms: NODES are 0 .. 3.")
    static void noSuchNode(Due due) {
        Play x = committed(due, new int[] {200, 5}, new int[] {9});
        for (int node : Play.outside(0, 3)) {
            x.refuses().ledger(node, -1);
            x.refuses().ledger(node, 0);
            x.refuses().ledger(node, 2);
            x.refuses().ledger(node, 3);
        }
    }

    @Sentence(promise = 9,
        says = "Terms: all transactions of these proposals (their bytes but 0) come to its end, the least first.")
    static void leastFirst(Due due) {
        Play x = committed(due, new int[] {255, 128}, new int[] {2, 254}, new int[] {127}, new int[] {1, 3});
        for (int node = 0; node < 4; node++) {
            x.hasLedger(node, 1, 2, 3, 127, 128, 254, 255);
        }
    }

    @Sentence(promise = 9, says = "Terms: all transactions come to its end, each once.")
    static void eachOnce(Due due) {
        Play x = committed(due, new int[] {7, 8}, new int[] {8, 7}, new int[] {8}, new int[] {7, 9});
        for (int node = 0; node < 4; node++) {
            x.hasLedger(node, 7, 8, 9);
        }
    }

    @Sentence(promise = 9, says = "Terms: all transactions (their bytes but 0): of empty proposals there are none.")
    static void emptyProposals(Due due) {
        Play x = committed(due);
        for (int node = 0; node < 4; node++) {
            x.gives(1).epoch(node);
            x.hasLedger(node);
        }
    }

    @Sentence(promise = 9, says = "Terms: the transactions of an epoch come to its end: behind those of the epoch before.")
    static void behindThoseBefore(Due due) {
        Play x = committed(due, new int[] {200, 100, 50, 250});
        x.flow((node, m) -> m.epoch == 1);
        for (int node = 0; node < 4; node++) {
            x.gives(2).epoch(node);
            x.hasLedger(node, 100, 200, 50, 250);
        }
    }

    /** The traitor proposes in epoch 1 what is committed already, and something new twice. */
    @Sentence(promise = 9, says = "Terms: transactions that are not in its ledger come to its end, each once.")
    static void notThoseInTheLedger(Due due) {
        for (int[] proposal : new int[][] {{9, 9}, {5, 9}, {9, 200}, {5, 200}, {0, 9}}) {
            Play x = committed(due, new int[] {200, 5});
            x.yes().betray();
            int[] bytes = LedgerModel.parts(proposal[0], proposal[1]);
            for (int node = 0; node < 3; node++) {
                x.yes().speak(node, 1, 3, Scenes.VALUE, LedgerModel.rootOf(bytes), Scenes.witness(node, bytes));
            }
            // The VALUE that node 3 has sent as long as it was loyal comes too late.
            x.flow((node, m) -> node < 3 && m.epoch == 1 && (m.sender < 3 || m.a == LedgerModel.rootOf(bytes)));
            for (int node = 0; node < 3; node++) {
                x.gives(2).epoch(node);
                if (proposal[1] == 9 || proposal[0] == 9) {
                    x.hasLedger(node, 5, 200, 9);
                } else {
                    x.hasLedger(node, 5, 200);
                }
            }
        }
    }

    @Sentence(promise = 9,
        says = "Terms: a LEDGER of them, in order: as long as four epochs with four proposals of two can make it.")
    static void asLongAsCanBe(Due due) {
        Play x = new Play(due, Seeds.ALL_ONE);
        for (int node = 0; node < 4; node++) {
            for (int k = 0; k < 8; k++) {
                x.submit(node, 255 - 8 * node - k);
            }
        }
        x.begin(0, 1, 2, 3);
        x.flow((node, m) -> true);
        for (int node = 0; node < 4; node++) {
            x.gives(4).epoch(node);
            x.gives(32).ledger(node, -1);
            x.gives(-1).ledger(node, 32);
            for (int k = 0; k < 32; k++) {
                int epoch = k / 8;
                int proposer = 3 - k % 8 / 2;
                x.gives(255 - 8 * proposer - 2 * epoch - (1 - k % 2)).ledger(node, k);
            }
            x.hasQueue(node);
        }
    }

    /** The traitor's proposal is delivered by node 0, but refused by the others, and decided 0. */
    @Sentence(promise = 9, says = "Terms: all transactions of these proposals: only of those that decided 1.")
    static void notThoseDecidedZero(Due due) {
        Play x = Scenes.split(due, "000000", 1, 6);
        for (int node = 0; node < 3; node++) {
            x.yes().speak(node, 0, 3, Scenes.VOTE, 0, 0);
            x.yes().speak(node, 0, 3, Scenes.SURE, 0, 0);
        }
        x.flow((node, m) -> node < 3 && m.epoch == 0 && m.instance == 3 && (m.kind == Scenes.SURE || m.kind == Scenes.VOTE));
        x.shows(0, 3, 7, Scenes.PROPOSAL, 1, 0, 0);
        x.gives(0).epoch(0);
        x.flow((node, m) -> node < 3 && m.epoch == 0);
        for (int node = 0; node < 3; node++) {
            x.gives(1).epoch(node);
            x.hasLedger(node);
        }
    }

    public static void main(String[] args) throws IllegalAccessException {
        Sentences.test(Promise09LedgerTest.class);
    }
}
