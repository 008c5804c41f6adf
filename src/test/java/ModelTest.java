import java.util.ArrayList;
import java.util.List;
import java.util.Map;
import java.util.TreeMap;

/** Long runs of all calls, the same ones each time, on the class and on the model: each answer has to be the same. */
public final class ModelTest {
    private static final int RUNS = 1500;
    private static final int CALLS = 512;
    private static final String[] MUST_BE_SEEN = {
        "kept by an idle node", "kept for a later epoch", "witness not right", "not a first one",
        "echoes do not make their root", "ready by readies", "delivered", "delivered behind the input 0",
        "vote by votes", "both bits good, 0 first", "both bits good, 1 first", "both bits good at once",
        "decided 0", "decided 1", "estimate is the coin", "done by the coin", "done undecided", "done by the last round",
        "input 0", "commit waits for a proposal", "over"};

    private final Due due;
    private final int run;
    private final LedgerModel model;
    private final EpochLedger ledger;
    private final List<int[]> codes = new ArrayList<>();
    private int state;
    private final int betrayAt;
    private final int haste;
    private final boolean isWild;
    private final boolean isSplit;
    /** The nodes, one bit for each, that do not get the messages of one kind and one instance for long; often none. */
    private final int heldNodes;
    private final int heldInstance;
    private final int heldKind;

    private ModelTest(Due due, int run) {
        this.due = due;
        this.run = run;
        state = run * 7919 + 12345;
        int seed = run % 10 == 0 ? run / 10 - 3 : next(1 << 30) * (run % 2 == 0 ? 3 : -5);
        model = new LedgerModel(seed);
        ledger = new EpochLedger(seed);
        betrayAt = run % 3 == 0 ? CALLS : run % 3 == 1 ? 0 : next(300);
        haste = 1 + next(60);
        isWild = run % 4 == 1;
        isSplit = run % 4 == 3;
        heldNodes = isSplit ? 1 + next(6) : run % 4 == 2 ? 1 + next(15) : 0;
        heldInstance = isSplit ? 3 : next(4);
        heldKind = isSplit || chance(80) ? LedgerModel.READY : next(3);
        codes.add(LedgerModel.parts(next(256), next(256)));
        codes.add(LedgerModel.parts(next(4), next(4)));
        codes.add(new int[] {next(256), next(256), next(256), next(256)});
    }

    /** A plain congruential row: the same numbers in each run of the test. */
    private int next(int bound) {
        state = state * 1103515245 + 12345;
        return (int) ((state >>> 8 & 0xFFFFFFL) * bound >> 24);
    }

    private boolean chance(int percent) {
        return next(100) < percent;
    }

    private int node() {
        return chance(1) ? next(2) * 5 - 1 : next(4);
    }

    private void play() {
        for (int i = 0; i < CALLS && !due.hasWrong(); i++) {
            if (i == betrayAt) {
                due.is(name(i, "betray"), model.betray() ? 1 : 0, ledger.betray() ? 1 : 0);
            } else if (i < 24) {
                openingCall(i);
            } else if (i >= betrayAt && chance(heldNodes != 0 ? 15 : 40)) {
                speakCall(i);
            } else if (chance(heldNodes != 0 ? 85 : 55)) {
                networkCall(i);
            } else {
                questionOrOddCall(i);
            }
        }
    }

    /** The traitor's proposal reaches all, but some are kept from delivering it until they have refused it. */
    private void playSplit() {
        due.is(name(0, "betray"), model.betray() ? 1 : 0, ledger.betray() ? 1 : 0);
        int i = 1;
        for (int node = 0; node < 3; node++) {
            due.is(name(i++, "begin", node), model.begin(node) ? 1 : 0, ledger.begin(node) ? 1 : 0);
            for (int kind = 0; kind < 3; kind++) {
                int witness = LedgerModel.witnessFor(kind == 0 ? node : 3, codes.get(0));
                speakBoth(i++, node, 0, 3, kind, LedgerModel.rootOf(codes.get(0)), witness);
            }
            for (int bit = 0; bit < 2; bit++) {
                speakBoth(i++, node, 0, 3, LedgerModel.VOTE, 0, chance(80) ? bit : next(2));
            }
        }
        for (; i < CALLS && !due.hasWrong(); i++) {
            splitCall(i, next(3));
        }
    }

    private void splitCall(int i, int node) {
        boolean allHaveInput = true;
        for (int other = 0; other < 3; other++) {
            allHaveInput &= model.epoch(other) > 0 || model.instance(other, 3, 2) != -1;
        }
        if (chance(10)) {
            instanceCall(i, node);
        } else if (!allHaveInput && chance(40)) {
            // Votes that are there before the input can make both bits good at once.
            deliverBoth(i, node, model.firstWaiting(node, 3, LedgerModel.VOTE, true));
        } else if (!allHaveInput && (heldNodes >> node & 1) == 1) {
            heldCall(i, node);
        } else if (!allHaveInput || chance(10)) {
            runBoth(i, node, 20);
        } else if (chance(30)) {
            int epoch = Math.min(model.epoch(node), 3);
            int round = Math.max(model.instance(node, 3, 2), 0);
            speakBoth(i, node, epoch, 3, 3 + next(2), round, next(2));
        } else {
            deliverBoth(i, node, next(model.waiting(node) + 1));
        }
    }

    private void deliverBoth(int i, int node, int k) {
        due.is(name(i, "deliver", node, k), model.deliver(node, k), ledger.deliver(node, k));
    }

    private void runBoth(int i, int node, int n) {
        due.is(name(i, "run", node, n), model.run(node, n), ledger.run(node, n));
    }

    private void speakBoth(int i, int node, int epoch, int instance, int kind, int a, int b) {
        due.is(name(i, "speak", node, epoch, instance, kind, a, b), model.speak(node, epoch, instance, kind, a, b) ? 1 : 0,
            ledger.speak(node, epoch, instance, kind, a, b) ? 1 : 0);
    }

    private String name(int i, String call, int... args) {
        StringBuilder text = new StringBuilder("run " + run + ", call " + i + ": " + call + "(");
        for (int k = 0; k < args.length; k++) {
            text.append(k == 0 ? "" : ", ").append(args[k]);
        }
        return text.append(")").toString();
    }

    private void openingCall(int i) {
        int node = node();
        if (i % 3 == 0) {
            due.is(name(i, "begin", node), model.begin(node) ? 1 : 0, ledger.begin(node) ? 1 : 0);
        } else {
            submitCall(i);
        }
    }

    private void submitCall(int i) {
        int node = node();
        int transaction = chance(50) ? next(20) : next(260);
        due.is(name(i, "submit", node, transaction), model.submit(node, transaction) ? 1 : 0,
            ledger.submit(node, transaction) ? 1 : 0);
    }

    private void networkCall(int i) {
        int node = node();
        if (model.waiting(node) > 0 && (heldNodes >> node & 1) == 1 && chance(98)) {
            heldCall(i, node);
        } else if (chance(isWild ? 60 : 15)) {
            int waiting = Math.max(model.waiting(node), 0);
            deliverBoth(i, node, chance(3) ? waiting : next(waiting + 1) - (chance(2) ? 1 : 0));
        } else {
            runBoth(i, node, chance(2) ? next(70) - 5 : next(haste + 1));
        }
    }

    /** All messages before the first held one, or else the first one that is not held. */
    private void heldCall(int i, int node) {
        int first = model.firstWaiting(node, heldInstance, heldKind, true);
        if (first > 0) {
            runBoth(i, node, Math.min(first, 60));
        } else {
            deliverBoth(i, node, model.firstWaiting(node, heldInstance, heldKind, false));
        }
    }

    private void speakCall(int i) {
        int node = chance(97) ? next(3) : node();
        int epoch = model.epoch(node) + (chance(8) ? next(3) - 1 : 0);
        epoch = epoch < 0 && chance(90) ? 0 : epoch;
        int kind = next(chance(2) ? 6 : 5);
        int instance = kind == 0 && chance(90) ? 3 : node();
        int[] code = code(instance);
        int a = LedgerModel.rootOf(code);
        int b = 0;
        if (kind == 0) {
            b = LedgerModel.witnessFor(Math.max(0, Math.min(3, node)), code);
        } else if (kind == 1) {
            b = LedgerModel.witnessFor(3, code);
        } else if (kind > 2) {
            int round = model.instance(node, instance, 2);
            a = round >= 0 && chance(80) ? round : next(chance(3) ? 8 : 6) - (chance(1) ? 1 : 0);
            b = chance(2) ? next(4) - 1 : next(2);
        }
        if (kind < 2 && chance(5)) {
            b ^= 1 << next(32);
        }
        speakBoth(i, node, epoch, instance, kind, a, b);
    }

    /** Mostly the proposal that the instance may really have made, or one of few for the traitor's own. */
    private int[] code(int instance) {
        if (instance >= 0 && instance < 3 && chance(70)) {
            LedgerModel.Nd node = model.nodes[instance];
            return LedgerModel.parts(LedgerModel.proposed(node, 0), LedgerModel.proposed(node, 1));
        }
        return codes.get(chance(70) ? run % 3 : next(3));
    }

    private void questionOrOddCall(int i) {
        int node = node();
        int k = next(18) - 3;
        switch (next(12)) {
            case 0: due.is(name(i, "epoch", node), model.epoch(node), ledger.epoch(node)); break;
            case 1: due.is(name(i, "ledger", node, k), model.ledger(node, k), ledger.ledger(node, k)); break;
            case 2: due.is(name(i, "queue", node, k), model.queue(node, k), ledger.queue(node, k)); break;
            case 3: due.is(name(i, "waiting", node), model.waiting(node), ledger.waiting(node)); break;
            case 4: coinCall(i); break;
            case 5: rootCall(i); break;
            case 6: submitCall(i); break;
            case 7: due.is(name(i, "begin", node), model.begin(node) ? 1 : 0, ledger.begin(node) ? 1 : 0); break;
            default: instanceCall(i, node); break;
        }
    }

    private void instanceCall(int i, int node) {
        int instance = node();
        int what = chance(2) ? next(12) - 2 : next(7);
        due.is(name(i, "instance", node, instance, what), model.instance(node, instance, what),
            ledger.instance(node, instance, what));
    }

    private void coinCall(int i) {
        int epoch = node();
        int instance = node();
        int round = chance(5) ? next(2) * 7 - 1 : next(6);
        due.is(name(i, "coin", epoch, instance, round), model.coin(epoch, instance, round),
            ledger.coin(epoch, instance, round));
    }

    private void rootCall(int i) {
        int p = next(2000) - 1000;
        int q = next(2000) - 1000;
        due.is(name(i, "root", p, q), model.root(p, q), ledger.root(p, q));
    }

    public static void main(String[] args) {
        Due due = new Due();
        Map<String, Integer> seen = new TreeMap<>();
        for (int run = 0; run < RUNS && !due.hasWrong(); run++) {
            ModelTest test = new ModelTest(due, run);
            if (test.isSplit) {
                test.playSplit();
            } else {
                test.play();
            }
            test.model.seen.forEach((what, count) -> seen.merge(what, count, Integer::sum));
        }
        if (args.length > 0) {
            System.out.println(seen);
        }
        for (String what : MUST_BE_SEEN) {
            due.yes("the runs have come to: " + what, due.hasWrong() || seen.containsKey(what));
        }
        due.end();
    }
}
