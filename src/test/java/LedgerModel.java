import java.util.ArrayList;
import java.util.List;
import java.util.Map;
import java.util.TreeMap;
import java.util.TreeSet;

/**
 * The document once more, sentence by sentence and without any thought of cost: all is looked up in the lists of what
 * was sent and kept, and a rule is sought again from the first one after each that applied.
 */
final class LedgerModel {
    static final int VALUE = 0;
    static final int ECHO = 1;
    static final int READY = 2;
    static final int VOTE = 3;
    static final int SURE = 4;

    /** How often something rare came about, so that a test can tell that it was not in vain. */
    final Map<String, Integer> seen = new TreeMap<>();

    static final class Msg {
        final int sender;
        final int epoch;
        final int instance;
        final int kind;
        final int a;
        final int[] b;
        final boolean[] reached = new boolean[4];

        Msg(int sender, int epoch, int instance, int kind, int a, int... b) {
            this.sender = sender;
            this.epoch = epoch;
            this.instance = instance;
            this.kind = kind;
            this.a = a;
            this.b = b;
        }

        int b(int node) {
            return b.length == 4 ? b[node] : b[0];
        }
    }

    static final class Inst {
        int[] delivered = null;
        int input = -1;
        int round = -1;
        int estimate = -1;
        int decided = -1;
        int decidedIn = -1;
        boolean done = false;
        List<Integer> good = new ArrayList<>();
    }

    static final class Nd {
        final int me;
        final List<Integer> queue = new ArrayList<>();
        final List<Integer> ledger = new ArrayList<>();
        final List<Msg> kept = new ArrayList<>();
        final List<Msg> sent = new ArrayList<>();
        int epoch = -1;
        Inst[] insts = null;

        Nd(int me) {
            this.me = me;
        }
    }

    final int seed;
    final Nd[] nodes = {new Nd(0), new Nd(1), new Nd(2), new Nd(3)};
    final List<Msg> messages = new ArrayList<>();
    boolean betrayed = false;
    int spoken = 0;

    LedgerModel(int seed) {
        this.seed = seed;
    }

    // ---- coding

    static int times(int k, int x) {
        int twice = x > 127 ? (2 * x ^ 27) % 256 : 2 * x;
        return k == 0 ? 0 : k == 1 ? x : k == 2 ? twice : twice ^ x;
    }

    static int[] parts(int p, int q) {
        int[] parts = new int[4];
        for (int k = 0; k < 4; k++) {
            parts[k] = p ^ times(k, p ^ q);
        }
        return parts;
    }

    static int leaf(int k, int x) {
        return (x * 167 + 59 * k) % 256;
    }

    static int half(int x, int y) {
        return (int) (((256L * x + y) * 40503L + 977L) % 65536L);
    }

    static int top(int x, int y) {
        return (int) ((65536L * x + y) * -1640531527L + 7L);
    }

    static int rootOf(int[] bytes) {
        return top(half(leaf(0, bytes[0]), leaf(1, bytes[1])), half(leaf(2, bytes[2]), leaf(3, bytes[3])));
    }

    static int witnessFor(int k, int[] bytes) {
        int other = k == 0 ? 1 : k == 1 ? 0 : k == 2 ? 3 : 2;
        int pair = k < 2 ? 2 : 0;
        int otherHalf = half(leaf(pair, bytes[pair]), leaf(pair + 1, bytes[pair + 1]));
        return bytes[k] | leaf(other, bytes[other]) << 8 | otherHalf << 16;
    }

    static boolean right(int k, int root, int witness) {
        int leaf = leaf(k, witness & 255);
        int otherLeaf = witness >>> 8 & 255;
        int otherHalf = witness >>> 16;
        switch (k) {
            case 0: return root == top(half(leaf, otherLeaf), otherHalf);
            case 1: return root == top(half(otherLeaf, leaf), otherHalf);
            case 2: return root == top(otherHalf, half(leaf, otherLeaf));
            default: return root == top(otherHalf, half(otherLeaf, leaf));
        }
    }

    /** By trying all of them. */
    static int[] proposalWith(int k, int x, int l, int y) {
        for (int sum = 0; sum < 256; sum++) {
            int p = x ^ times(k, sum);
            if ((p ^ times(l, sum)) == y) {
                return new int[] {p, p ^ sum};
            }
        }
        throw new IllegalStateException("no proposal has these parts");
    }

    // ---- messages

    private void send(Nd node, Msg message) {
        node.sent.add(message);
        messages.add(message);
    }

    private static boolean hasSent(Nd node, int instance, int kind, int round, int bit) {
        for (Msg m : node.sent) {
            boolean same = m.epoch == node.epoch && m.instance == instance && m.kind == kind;
            if (same && (kind < VOTE || m.a == round && (kind == SURE || m.b[0] == bit))) {
                return true;
            }
        }
        return false;
    }

    List<Msg> waitingFor(int node) {
        List<Msg> list = new ArrayList<>();
        for (Msg m : messages) {
            if (!m.reached[node]) {
                list.add(m);
            }
        }
        return list;
    }

    private void reach(Nd node, Msg m) {
        m.reached[node.me] = true;
        if (node.me == 3 && betrayed) {
            return;
        }
        Msg mine = new Msg(m.sender, m.epoch, m.instance, m.kind, m.a, m.b(node.me));
        if (!counts(node, mine) || mine.epoch < node.epoch) {
            return;
        }
        if (mine.epoch > node.epoch) {
            count(node.epoch == -1 ? "kept by an idle node" : "kept for a later epoch");
        }
        node.kept.add(mine);
        if (mine.epoch == node.epoch) {
            goOn(node, mine.instance);
        }
    }

    private boolean counts(Nd node, Msg m) {
        if (m.kind == VALUE && m.sender != m.instance) {
            return false;
        }
        if (m.kind == VALUE && !right(node.me, m.a, m.b[0]) || m.kind == ECHO && !right(m.sender, m.a, m.b[0])) {
            count("witness not right");
            return false;
        }
        for (Msg o : node.kept) {
            boolean same = o.sender == m.sender && o.epoch == m.epoch && o.instance == m.instance && o.kind == m.kind;
            if (same && (m.kind < VOTE || o.a == m.a && (m.kind == SURE || o.b[0] == m.b[0]))) {
                count("not a first one");
                return false;
            }
        }
        return true;
    }

    /** What a node has of a kind for an instance of its epoch, the least sender first. */
    private static List<Msg> there(Nd node, int instance, int kind) {
        List<Msg> list = new ArrayList<>();
        for (int sender = 0; sender < 4; sender++) {
            for (Msg m : node.kept) {
                if (m.sender == sender && m.epoch == node.epoch && m.instance == instance && m.kind == kind) {
                    list.add(m);
                }
            }
        }
        return list;
    }

    private static List<Msg> withRoot(List<Msg> list, int root) {
        List<Msg> some = new ArrayList<>();
        for (Msg m : list) {
            if (m.a == root) {
                some.add(m);
            }
        }
        return some;
    }

    private static List<Msg> withRoundAndBit(List<Msg> list, int round, int bit) {
        List<Msg> some = new ArrayList<>();
        for (Msg m : list) {
            if (m.a == round && m.b[0] == bit) {
                some.add(m);
            }
        }
        return some;
    }

    private static int[] given(List<Msg> echoes) {
        Msg k = echoes.get(0);
        Msg l = echoes.get(1);
        return proposalWith(k.sender, k.b[0] & 255, l.sender, l.b[0] & 255);
    }

    private static boolean make(List<Msg> echoes, int root) {
        int[] proposal = given(echoes);
        return rootOf(parts(proposal[0], proposal[1])) == root;
    }

    /** The place of the first message waiting that is, or is not, of an instance and kind; how many wait if none is. */
    int firstWaiting(int node, int instance, int kind, boolean isOf) {
        List<Msg> list = waitingFor(node);
        for (int k = 0; k < list.size(); k++) {
            Msg m = list.get(k);
            if ((m.instance == instance && m.kind == kind) == isOf) {
                return k;
            }
        }
        return list.size();
    }

    // ---- going on

    private void goOn(Nd node, int instance) {
        boolean applied = true;
        while (applied) {
            applied = echoRule(node, instance) || readyRule(node, instance) || deliverRule(node, instance)
                || inputRule(node, instance) || agreementRule(node, instance);
        }
        look(node);
    }

    private boolean echoRule(Nd node, int instance) {
        List<Msg> values = there(node, instance, VALUE);
        if (values.isEmpty() || hasSent(node, instance, ECHO, 0, 0)) {
            return false;
        }
        send(node, new Msg(node.me, node.epoch, instance, ECHO, values.get(0).a, values.get(0).b[0]));
        return true;
    }

    private boolean readyRule(Nd node, int instance) {
        if (hasSent(node, instance, READY, 0, 0)) {
            return false;
        }
        List<Msg> echoes = there(node, instance, ECHO);
        for (Msg m : echoes) {
            List<Msg> same = withRoot(echoes, m.a);
            if (same.size() >= 3) {
                if (make(same, m.a)) {
                    send(node, new Msg(node.me, node.epoch, instance, READY, m.a, 0));
                    return true;
                }
                count("echoes do not make their root");
            }
        }
        List<Msg> readies = there(node, instance, READY);
        for (Msg m : readies) {
            if (withRoot(readies, m.a).size() >= 2) {
                count("ready by readies");
                send(node, new Msg(node.me, node.epoch, instance, READY, m.a, 0));
                return true;
            }
        }
        return false;
    }

    private boolean deliverRule(Nd node, int instance) {
        Inst inst = node.insts[instance];
        if (inst.delivered != null) {
            return false;
        }
        List<Msg> readies = there(node, instance, READY);
        for (Msg m : readies) {
            List<Msg> echoes = withRoot(there(node, instance, ECHO), m.a);
            if (withRoot(readies, m.a).size() >= 3 && echoes.size() >= 2) {
                inst.delivered = make(echoes, m.a) ? given(echoes) : new int[] {0, 0};
                count(inst.input == -1 ? "delivered" : "delivered behind the input 0");
                return true;
            }
        }
        return false;
    }

    private boolean inputRule(Nd node, int instance) {
        Inst inst = node.insts[instance];
        if (inst.delivered == null || inst.input != -1) {
            return false;
        }
        giveInput(inst, 1);
        return true;
    }

    private static void giveInput(Inst inst, int bit) {
        inst.input = bit;
        inst.estimate = bit;
        inst.round = 0;
    }

    private boolean agreementRule(Nd node, int instance) {
        Inst inst = node.insts[instance];
        if (inst.input == -1 || inst.done) {
            return false;
        }
        return voteRule(node, instance, inst) || goodRule(node, instance, inst) || finishRule(node, instance, inst);
    }

    private boolean voteRule(Nd node, int instance, Inst inst) {
        if (!hasSent(node, instance, VOTE, inst.round, inst.estimate)) {
            send(node, new Msg(node.me, node.epoch, instance, VOTE, inst.round, inst.estimate));
            return true;
        }
        List<Msg> votes = there(node, instance, VOTE);
        for (int bit = 0; bit < 2; bit++) {
            boolean two = withRoundAndBit(votes, inst.round, bit).size() >= 2;
            if (two && !hasSent(node, instance, VOTE, inst.round, bit)) {
                count("vote by votes");
                send(node, new Msg(node.me, node.epoch, instance, VOTE, inst.round, bit));
                return true;
            }
        }
        return false;
    }

    private boolean goodRule(Nd node, int instance, Inst inst) {
        List<Msg> votes = there(node, instance, VOTE);
        for (int bit = 0; bit < 2; bit++) {
            if (withRoundAndBit(votes, inst.round, bit).size() >= 3 && !inst.good.contains(bit)) {
                if (inst.good.isEmpty() && bit == 0 && withRoundAndBit(votes, inst.round, 1).size() >= 3) {
                    count("both bits good at once");
                }
                inst.good.add(bit);
                if (inst.good.size() == 2) {
                    count("both bits good, " + inst.good.get(0) + " first");
                }
                return true;
            }
        }
        if (!inst.good.isEmpty() && !hasSent(node, instance, SURE, inst.round, 0)) {
            send(node, new Msg(node.me, node.epoch, instance, SURE, inst.round, inst.good.get(0)));
            return true;
        }
        return false;
    }

    private boolean finishRule(Nd node, int instance, Inst inst) {
        List<Msg> sures = new ArrayList<>();
        TreeSet<Integer> bits = new TreeSet<>();
        for (Msg m : there(node, instance, SURE)) {
            if (m.a == inst.round && inst.good.contains(m.b[0])) {
                sures.add(m);
                bits.add(m.b[0]);
            }
        }
        if (sures.size() < 3) {
            return false;
        }
        int c = coin(node.epoch, instance, inst.round);
        if (bits.size() == 1) {
            inst.estimate = bits.first();
            if (inst.estimate == c && inst.decided == -1) {
                inst.decided = c;
                inst.decidedIn = inst.round;
                count("decided " + c);
            }
        } else {
            inst.estimate = c;
            count("estimate is the coin");
        }
        if (inst.decided != -1 && inst.decidedIn < inst.round && c == inst.decided) {
            inst.done = true;
            count("done by the coin");
        } else if (inst.round == 5) {
            inst.done = true;
            count(inst.decided == -1 ? "done undecided" : "done by the last round");
        } else {
            inst.round++;
            inst.good = new ArrayList<>();
        }
        return true;
    }

    private void look(Nd node) {
        int ones = 0;
        int decided = 0;
        int lacking = 0;
        int least = -1;
        for (int i = 3; i >= 0; i--) {
            Inst inst = node.insts[i];
            ones += inst.decided == 1 ? 1 : 0;
            decided += inst.decided != -1 ? 1 : 0;
            lacking += inst.decided == 1 && inst.delivered == null ? 1 : 0;
            least = inst.input == -1 ? i : least;
        }
        if (ones >= 3 && least != -1) {
            count("input 0");
            giveInput(node.insts[least], 0);
            goOn(node, least);
        } else if (decided == 4 && lacking > 0) {
            count("commit waits for a proposal");
        } else if (decided == 4) {
            commit(node);
        }
    }

    private void commit(Nd node) {
        TreeSet<Integer> transactions = new TreeSet<>();
        for (Inst inst : node.insts) {
            if (inst.decided == 1) {
                transactions.add(inst.delivered[0]);
                transactions.add(inst.delivered[1]);
            }
        }
        transactions.remove(0);
        transactions.removeAll(node.ledger);
        node.ledger.addAll(transactions);
        node.queue.removeAll(transactions);
        enter(node, node.epoch + 1);
    }

    private void enter(Nd node, int epoch) {
        node.epoch = epoch;
        if (epoch == 4) {
            count("over");
            node.insts = null;
            return;
        }
        node.insts = new Inst[] {new Inst(), new Inst(), new Inst(), new Inst()};
        int[] bytes = parts(proposed(node, 0), proposed(node, 1));
        int[] witnesses = new int[4];
        for (int k = 0; k < 4; k++) {
            witnesses[k] = witnessFor(k, bytes);
        }
        send(node, new Msg(node.me, epoch, node.me, VALUE, rootOf(bytes), witnesses));
        for (int i = 0; i < 4 && node.epoch == epoch; i++) {
            goOn(node, i);
        }
    }

    static int proposed(Nd node, int k) {
        return k < node.queue.size() ? node.queue.get(k) : 0;
    }

    private void count(String what) {
        seen.merge(what, 1, Integer::sum);
    }

    // ---- the face

    private static boolean in(int x, int most) {
        return x >= 0 && x <= most;
    }

    boolean submit(int node, int transaction) {
        if (!in(node, 3) || transaction < 1 || transaction > 255 || nodes[node].queue.size() >= 12) {
            return false;
        }
        if (nodes[node].queue.contains(transaction) || nodes[node].ledger.contains(transaction)) {
            return false;
        }
        return nodes[node].queue.add(transaction);
    }

    boolean begin(int node) {
        if (!in(node, 3) || nodes[node].epoch != -1 || node == 3 && betrayed) {
            return false;
        }
        enter(nodes[node], 0);
        return true;
    }

    int run(int node, int n) {
        if (!in(node, 3) || !in(n, 60)) {
            return -1;
        }
        int count = 0;
        while (count < n && !waitingFor(node).isEmpty()) {
            reach(nodes[node], waitingFor(node).get(0));
            count++;
        }
        return count;
    }

    int deliver(int node, int k) {
        if (!in(node, 3) || !in(k, waitingFor(node).size() - 1)) {
            return -1;
        }
        Msg m = waitingFor(node).get(k);
        reach(nodes[node], m);
        return m.kind;
    }

    boolean betray() {
        boolean was = betrayed;
        betrayed = true;
        return !was;
    }

    boolean speak(int node, int epoch, int instance, int kind, int a, int b) {
        boolean named = in(node, 3) && in(epoch, 3) && in(instance, 3) && in(kind, 4);
        if (!betrayed || !named || kind >= VOTE && !(in(a, 5) && in(b, 1)) || spoken == 300) {
            return false;
        }
        spoken++;
        Msg m = new Msg(3, epoch, instance, kind, a, b);
        for (int i = 0; i < 4; i++) {
            m.reached[i] = i != node;
        }
        return messages.add(m);
    }

    int epoch(int node) {
        return in(node, 3) ? nodes[node].epoch : -1;
    }

    private static int row(List<Integer> list, int k) {
        return k == -1 ? list.size() : in(k, list.size() - 1) ? list.get(k) : -1;
    }

    int ledger(int node, int k) {
        return in(node, 3) ? row(nodes[node].ledger, k) : -1;
    }

    int queue(int node, int k) {
        return in(node, 3) ? row(nodes[node].queue, k) : -1;
    }

    int waiting(int node) {
        return in(node, 3) ? waitingFor(node).size() : -1;
    }

    int instance(int node, int instance, int what) {
        if (!in(node, 3) || !in(instance, 3) || !in(what, 6) || !in(nodes[node].epoch, 3)) {
            return -1;
        }
        Nd nd = nodes[node];
        Inst inst = nd.insts[instance];
        boolean hasInput = inst.input != -1;
        switch (what) {
            case 0: return (hasSent(nd, instance, ECHO, 0, 0) ? 1 : 0) + (hasSent(nd, instance, READY, 0, 0) ? 2 : 0)
                + (inst.delivered != null ? 4 : 0);
            case 1: return inst.delivered == null ? -1 : inst.delivered[0] + 256 * inst.delivered[1];
            case 2: return hasInput ? inst.round : -1;
            case 3: return hasInput ? inst.estimate : -1;
            case 4: return inst.decided;
            case 5: return inst.done ? 1 : 0;
            default: return (inst.good.contains(0) ? 1 : 0) + (inst.good.contains(1) ? 2 : 0);
        }
    }

    int coin(int epoch, int instance, int round) {
        if (!in(epoch, 3) || !in(instance, 3) || !in(round, 5)) {
            return -1;
        }
        int h = seed * 668265263;
        h = h ^ (h >>> 15);
        return (h & 1 << (epoch * 24 + instance * 6 + round) % 31) == 0 ? 0 : 1;
    }

    int root(int p, int q) {
        return rootOf(parts(p & 255, q & 255));
    }
}
