import java.util.ArrayList;

/**
 * Four nodes that keep one ledger over a network that delivers what and when it likes; node 3 may betray the others.
 */
public final class EpochLedger {
    /** Nothing there, or refused by the call itself. */
    public static final int NONE = -1;

    private static final int NODES = 4;
    private static final int EPOCHS = 4;
    private static final int ROUNDS = 6;

    private static final int VALUE = 0;
    private static final int ECHO = 1;
    private static final int READY = 2;
    private static final int VOTE = 3;
    private static final int SURE = 4;

    /** So many senders hold at least one who is loyal. */
    private static final int SOME = 2;
    /** So many senders are all that can be waited for: the fourth may be the traitor. */
    private static final int MOST = 3;

    /** Any so many parts give the proposal back. */
    private static final int PARTS_NEEDED = 2;

    private static final int TRAITOR = 3;
    private static final int SPOKEN_LIMIT = 300;
    private static final int RUN_LIMIT = 60;
    private static final int QUEUE_LIMIT = 12;
    /** Each of the four epochs commits at most two transactions of each node. */
    private static final int LEDGER_LIMIT = EPOCHS * NODES * 2;
    private static final int LAST_TRANSACTION = 255;

    private final int tosses;
    private final Network network;
    private final Node[] nodes;
    private int spoken;

    public EpochLedger(int seed) {
        int mixed = seed * 668265263;
        tosses = mixed ^ (mixed >>> 15);
        network = new Network();
        nodes = new Node[NODES];
        for (int i = 0; i < NODES; i++) {
            nodes[i] = new Node(i, network, tosses);
        }
    }

    public boolean submit(int node, int transaction) {
        return isNode(node) && isIn(transaction, 1, LAST_TRANSACTION) && nodes[node].accept(transaction);
    }

    public boolean begin(int node) {
        return isNode(node) && nodes[node].start();
    }

    public int run(int node, int n) {
        if (!isNode(node) || !isIn(n, 0, RUN_LIMIT)) {
            return NONE;
        }
        int reached = 0;
        while (reached < n && network.countFor(node) > 0) {
            nodes[node].take(network.remove(node, 0));
            reached++;
        }
        return reached;
    }

    public int deliver(int node, int k) {
        if (!isNode(node) || !isIn(k, 0, network.countFor(node) - 1)) {
            return NONE;
        }
        Message message = network.remove(node, k);
        nodes[node].take(message);
        return message.kind;
    }

    public boolean betray() {
        if (nodes[TRAITOR].isTraitor) {
            return false;
        }
        nodes[TRAITOR].isTraitor = true;
        return true;
    }

    public boolean speak(int node, int epoch, int instance, int kind, int a, int b) {
        if (!nodes[TRAITOR].isTraitor || spoken >= SPOKEN_LIMIT) {
            return false;
        }
        if (!isNode(node) || !isEpoch(epoch) || !isNode(instance) || !isIn(kind, VALUE, SURE)) {
            return false;
        }
        if (kind >= VOTE && !(isRound(a) && isIn(b, 0, 1))) {
            return false;
        }
        spoken++;
        network.sendToOne(node, new Message(TRAITOR, epoch, instance, kind, a, b));
        return true;
    }

    public int epoch(int node) {
        return isNode(node) ? nodes[node].epoch : NONE;
    }

    public int ledger(int node, int k) {
        return isNode(node) ? nodes[node].committed.answer(k) : NONE;
    }

    public int queue(int node, int k) {
        return isNode(node) ? nodes[node].queued.answer(k) : NONE;
    }

    public int waiting(int node) {
        return isNode(node) ? network.countFor(node) : NONE;
    }

    public int instance(int node, int instance, int what) {
        if (!isNode(node) || !isNode(instance) || !isEpoch(nodes[node].epoch)) {
            return NONE;
        }
        Broadcast broadcast = nodes[node].broadcastOf(instance);
        Agreement agreement = nodes[node].agreementOf(instance);
        switch (what) {
            case 0: return broadcast.progress();
            case 1: return broadcast.proposal;
            case 2: return agreement.round;
            case 3: return agreement.estimate;
            case 4: return agreement.decided;
            case 5: return agreement.done ? 1 : 0;
            case 6: return agreement.goodBits;
            default: return NONE;
        }
    }

    public int coin(int epoch, int instance, int round) {
        if (!isEpoch(epoch) || !isNode(instance) || !isRound(round)) {
            return NONE;
        }
        return tossOf(tosses, epoch, instance, round);
    }

    public int root(int p, int q) {
        return Coding.rootOf(Coding.proposal(p & 255, q & 255));
    }

    private static boolean isIn(int x, int least, int most) {
        return x >= least && x <= most;
    }

    private static boolean isNode(int node) {
        return isIn(node, 0, NODES - 1);
    }

    private static boolean isEpoch(int epoch) {
        return isIn(epoch, 0, EPOCHS - 1);
    }

    private static boolean isRound(int round) {
        return isIn(round, 0, ROUNDS - 1);
    }

    private static int tossOf(int tosses, int epoch, int instance, int round) {
        return tosses >>> ((epoch * NODES * ROUNDS + instance * ROUNDS + round) % 31) & 1;
    }

    /** Parts, roots and witnesses: a proposal is held as p + 256 * q, a witness without its root as b of speak. */
    private static final class Coding {
        /** What a product with 1, 2, 3 has to be multiplied by to be undone. */
        private static final int[] INVERSES = {0, 1, 141, 246};

        private Coding() {
        }

        static int proposal(int p, int q) {
            return p + 256 * q;
        }

        static int product(int factor, int x) {
            int sum = 0;
            int term = x;
            for (int bit = 0; bit < 8; bit++) {
                if ((factor >> bit & 1) == 1) {
                    sum ^= term;
                }
                term = term > 127 ? (term * 2 ^ 27) & 255 : term * 2;
            }
            return sum;
        }

        static int leafOf(int k, int x) {
            return (x * 167 + 59 * k) & 255;
        }

        static int halfOf(int x, int y) {
            return ((256 * x + y) * 40503 + 977) & 65535;
        }

        static int topOf(int x, int y) {
            return (65536 * x + y) * -1640531527 + 7;
        }

        static int partOf(int proposal, int k) {
            int p = proposal & 255;
            int q = proposal >> 8 & 255;
            return p ^ product(k, p ^ q);
        }

        static int rootOf(int proposal) {
            int p = proposal & 255;
            int sum = p ^ (proposal >> 8 & 255);
            int low = halfOf(leafOf(0, p), leafOf(1, p ^ sum));
            int high = halfOf(leafOf(2, p ^ product(2, sum)), leafOf(3, p ^ product(3, sum)));
            return topOf(low, high);
        }

        static int witnessOf(int proposal, int k) {
            int otherLeaf = leafOf(k ^ 1, partOf(proposal, k ^ 1));
            int first = k < 2 ? 2 : 0;
            int otherHalf = halfOf(leafOf(first, partOf(proposal, first)), leafOf(first + 1, partOf(proposal, first + 1)));
            return partOf(proposal, k) + 256 * otherLeaf + 65536 * otherHalf;
        }

        static boolean isRight(int k, int root, int witness) {
            int leaf = leafOf(k, witness & 255);
            int otherLeaf = witness >>> 8 & 255;
            int otherHalf = witness >>> 16;
            int half = (k & 1) == 0 ? halfOf(leaf, otherLeaf) : halfOf(otherLeaf, leaf);
            return root == (k < 2 ? topOf(half, otherHalf) : topOf(otherHalf, half));
        }

        /** The proposal with part(k) = x and part(l) = y, for k other than l. */
        static int proposalWith(int k, int x, int l, int y) {
            int sum = product(INVERSES[(k ^ l) & 3], x ^ y);
            int p = x ^ product(k, sum);
            return proposal(p, p ^ sum);
        }
    }

    /** For VALUE and ECHO a is a root and b a witness, for READY a is a root, for VOTE and SURE a is a round and b a bit. */
    private static final class Message {
        private final int sender;
        private final int epoch;
        private final int instance;
        private final int kind;
        private final int a;
        private final int b;

        Message(int sender, int epoch, int instance, int kind, int a, int b) {
            this.sender = sender;
            this.epoch = epoch;
            this.instance = instance;
            this.kind = kind;
            this.a = a;
            this.b = b;
        }
    }

    /** The messages that have not reached one node, in the order in which they were sent. */
    private static final class Inbox {
        private final ArrayList<Message> messages = new ArrayList<Message>();
    }

    /** All messages on their way. */
    private static final class Network {
        private final Inbox[] inboxes = new Inbox[NODES];

        Network() {
            for (int i = 0; i < NODES; i++) {
                inboxes[i] = new Inbox();
            }
        }

        void sendToOne(int node, Message message) {
            inboxes[node].messages.add(message);
        }

        void sendToAll(Message message) {
            for (int i = 0; i < NODES; i++) {
                inboxes[i].messages.add(message);
            }
        }

        int countFor(int node) {
            return inboxes[node].messages.size();
        }

        /** The caller has looked that there is a message k. */
        Message remove(int node, int k) {
            return inboxes[node].messages.remove(k);
        }
    }

    /** Transactions in order, each once. */
    private static final class Row {
        private final int[] items;
        private int count;

        Row(int limit) {
            items = new int[limit];
        }

        boolean isFull() {
            return count == items.length;
        }

        boolean has(int transaction) {
            for (int i = 0; i < count; i++) {
                if (items[i] == transaction) {
                    return true;
                }
            }
            return false;
        }

        void append(int transaction) {
            if (!isFull()) {
                items[count] = transaction;
                count++;
            }
        }

        void drop(int transaction) {
            int left = 0;
            for (int i = 0; i < count; i++) {
                if (items[i] != transaction) {
                    items[left] = items[i];
                    left++;
                }
            }
            count = left;
        }

        int itemOr(int k, int otherwise) {
            return isIn(k, 0, count - 1) ? items[k] : otherwise;
        }

        int answer(int k) {
            return k == -1 ? count : itemOr(k, NONE);
        }
    }

    /** The roots that came with the messages of one kind, one for each sender. */
    private static final class Roots {
        private final int[] roots = new int[NODES];
        private int senders;

        boolean isFrom(int sender) {
            return (senders >> sender & 1) == 1;
        }

        void put(int sender, int root) {
            roots[sender] = root;
            senders |= 1 << sender;
        }

        /** The senders of a root, one bit for each. */
        int sendersOf(int root) {
            int found = 0;
            for (int i = 0; i < NODES; i++) {
                if (isFrom(i) && roots[i] == root) {
                    found |= 1 << i;
                }
            }
            return found;
        }

        /** The least sender whose root came from so many, NONE if there is none. */
        int leastOfShared(int number) {
            for (int i = 0; i < NODES; i++) {
                if (isFrom(i) && Integer.bitCount(sendersOf(roots[i])) >= number) {
                    return i;
                }
            }
            return NONE;
        }
    }

    /** How far the proposal of one instance of one epoch has come at one node. */
    private static final class Broadcast {
        private final Network network;
        private final int me;
        private final int epoch;
        private final int instance;
        private boolean hasValue;
        private int valueRoot;
        private int valueWitness;
        private final Roots echoes = new Roots();
        private final int[] echoBytes = new int[NODES];
        private final Roots readies = new Roots();
        private boolean echoSent;
        private boolean readySent;
        private int proposal = NONE;

        Broadcast(Network network, int me, int epoch, int instance) {
            this.network = network;
            this.me = me;
            this.epoch = epoch;
            this.instance = instance;
        }

        void keep(Message message) {
            if (message.kind == VALUE) {
                keepValue(message);
            } else if (message.kind == ECHO) {
                keepEcho(message);
            } else if (!readies.isFrom(message.sender)) {
                readies.put(message.sender, message.a);
            }
        }

        private void keepValue(Message message) {
            if (!hasValue && message.sender == instance && Coding.isRight(me, message.a, message.b)) {
                hasValue = true;
                valueRoot = message.a;
                valueWitness = message.b;
            }
        }

        private void keepEcho(Message message) {
            int sender = message.sender;
            if (!echoes.isFrom(sender) && Coding.isRight(sender, message.a, message.b)) {
                echoes.put(sender, message.a);
                echoBytes[sender] = message.b & 255;
            }
        }

        void sendEchoIfDue() {
            if (hasValue && !echoSent) {
                echoSent = true;
                network.sendToAll(new Message(me, epoch, instance, ECHO, valueRoot, valueWitness));
            }
        }

        void sendReadyIfDue() {
            if (readySent) {
                return;
            }
            int echoer = echoes.leastOfShared(MOST);
            if (echoer != NONE) {
                int root = echoes.roots[echoer];
                if (Coding.rootOf(proposalOf(echoes.sendersOf(root))) == root) {
                    sendReady(root);
                    return;
                }
            }
            int readier = readies.leastOfShared(SOME);
            if (readier != NONE) {
                sendReady(readies.roots[readier]);
            }
        }

        private void sendReady(int root) {
            readySent = true;
            network.sendToAll(new Message(me, epoch, instance, READY, root, 0));
        }

        void takeProposalIfDue() {
            if (proposal != NONE) {
                return;
            }
            int readier = readies.leastOfShared(MOST);
            if (readier == NONE) {
                return;
            }
            int root = readies.roots[readier];
            int echoers = echoes.sendersOf(root);
            if (Integer.bitCount(echoers) >= PARTS_NEEDED) {
                int given = proposalOf(echoers);
                proposal = Coding.rootOf(given) == root ? given : 0;
            }
        }

        /** The proposal that the bytes of the two least of these senders give. */
        private int proposalOf(int echoers) {
            int least = NONE;
            for (int i = 0; i < NODES; i++) {
                if ((echoers >> i & 1) == 1) {
                    if (least != NONE) {
                        return Coding.proposalWith(least, echoBytes[least], i, echoBytes[i]);
                    }
                    least = i;
                }
            }
            return 0;
        }

        int progress() {
            return (echoSent ? 1 : 0) + (readySent ? 2 : 0) + (proposal != NONE ? 4 : 0);
        }
    }

    /** How far the agreement on one instance of one epoch has come at one node. */
    private static final class Agreement {
        private final Network network;
        private final int me;
        private final int epoch;
        private final int instance;
        private final int tosses;
        /** Who sent a VOTE or a SURE of a round and bit: one bit for each sender, at 2 * round + bit. */
        private final int[] votes = new int[2 * ROUNDS];
        private final int[] sures = new int[2 * ROUNDS];
        private int round = NONE;
        private int estimate = NONE;
        private int decided = NONE;
        private boolean done;
        /** These and sureSent are about the round that it is in: 1 for the bit 0, + 2 for the bit 1. */
        private int goodBits;
        private int votedBits;
        private boolean sureSent;

        Agreement(Network network, int me, int epoch, int instance, int tosses) {
            this.network = network;
            this.me = me;
            this.epoch = epoch;
            this.instance = instance;
            this.tosses = tosses;
        }

        void keep(Message message) {
            int at = 2 * message.a + message.b;
            int from = 1 << message.sender;
            if (message.kind == VOTE) {
                votes[at] |= from;
            } else if (((sures[2 * message.a] | sures[2 * message.a + 1]) & from) == 0) {
                sures[at] |= from;
            }
        }

        boolean hasInput() {
            return round != NONE;
        }

        void giveInput(int bit) {
            if (!hasInput()) {
                round = 0;
                estimate = bit;
            }
        }

        void goOn() {
            // Each turn but the last one finishes a round, so that there are never more turns than rounds.
            for (int turn = 0; turn < ROUNDS && hasInput() && !done; turn++) {
                sendVote(estimate);
                for (int bit = 0; bit < 2; bit++) {
                    if (voters(bit) >= SOME) {
                        sendVote(bit);
                    }
                }
                for (int bit = 0; bit < 2; bit++) {
                    if (voters(bit) >= MOST) {
                        makeGood(bit);
                    }
                }
                if (goodSures(0) + goodSures(1) < MOST) {
                    return;
                }
                finishRound();
            }
        }

        private int voters(int bit) {
            return Integer.bitCount(votes[2 * round + bit]);
        }

        private void sendVote(int bit) {
            if ((votedBits >> bit & 1) == 0) {
                votedBits |= 1 << bit;
                network.sendToAll(new Message(me, epoch, instance, VOTE, round, bit));
            }
        }

        private void makeGood(int bit) {
            goodBits |= 1 << bit;
            if (!sureSent) {
                sureSent = true;
                network.sendToAll(new Message(me, epoch, instance, SURE, round, bit));
            }
        }

        /** How many sent SURE with a bit, 0 if the bit is not good. */
        private int goodSures(int bit) {
            return (goodBits >> bit & 1) == 0 ? 0 : Integer.bitCount(sures[2 * round + bit]);
        }

        private void finishRound() {
            int toss = tossOf(tosses, epoch, instance, round);
            boolean isConfirmed = decided == toss;
            if (goodSures(0) > 0 && goodSures(1) > 0) {
                estimate = toss;
            } else {
                estimate = goodSures(1) > 0 ? 1 : 0;
                if (estimate == toss && decided == NONE) {
                    decided = toss;
                }
            }
            if (isConfirmed || round == ROUNDS - 1) {
                done = true;
            } else {
                enterNextRound();
            }
        }

        private void enterNextRound() {
            round++;
            goodBits = 0;
            votedBits = 0;
            sureSent = false;
        }
    }

    /** One node: its transactions, and all that it has kept and done in each epoch. */
    private static final class Node {
        private final int me;
        private final Network network;
        private final Row queued = new Row(QUEUE_LIMIT);
        private final Row committed = new Row(LEDGER_LIMIT);
        /** Of instance i of epoch e at e * NODES + i, since messages of later epochs are kept, too. */
        private final Broadcast[] broadcasts = new Broadcast[EPOCHS * NODES];
        private final Agreement[] agreements = new Agreement[EPOCHS * NODES];
        /** NONE as long as it is idle, EPOCHS when it is over. */
        private int epoch = NONE;
        private boolean isTraitor;

        Node(int me, Network network, int tosses) {
            this.me = me;
            this.network = network;
            for (int i = 0; i < EPOCHS * NODES; i++) {
                broadcasts[i] = new Broadcast(network, me, i / NODES, i % NODES);
                agreements[i] = new Agreement(network, me, i / NODES, i % NODES, tosses);
            }
        }

        /** This and the next one: only for a node that is in an epoch. */
        Broadcast broadcastOf(int instance) {
            return broadcasts[epoch * NODES + instance];
        }

        Agreement agreementOf(int instance) {
            return agreements[epoch * NODES + instance];
        }

        boolean accept(int transaction) {
            if (queued.isFull() || queued.has(transaction) || committed.has(transaction)) {
                return false;
            }
            queued.append(transaction);
            return true;
        }

        boolean start() {
            if (epoch != NONE || isTraitor) {
                return false;
            }
            epoch = 0;
            propose();
            goOnWith(0, NODES - 1);
            return true;
        }

        void take(Message message) {
            if (isTraitor || message.epoch < epoch) {
                return;
            }
            int at = message.epoch * NODES + message.instance;
            if (message.kind >= VOTE) {
                agreements[at].keep(message);
            } else {
                broadcasts[at].keep(message);
            }
            if (message.epoch == epoch) {
                goOnWith(message.instance, message.instance);
            }
        }

        private void propose() {
            int proposal = Coding.proposal(queued.itemOr(0, 0), queued.itemOr(1, 0));
            int root = Coding.rootOf(proposal);
            for (int i = 0; i < NODES; i++) {
                int witness = Coding.witnessOf(proposal, i);
                network.sendToOne(i, new Message(me, epoch, me, VALUE, root, witness));
            }
        }

        /** Goes on with the instances first .. last, and with all of each epoch that it comes into by that. */
        private void goOnWith(int first, int last) {
            int next = first;
            int end = last;
            for (int turn = 0; turn < (EPOCHS + 1) * NODES && next <= end; turn++) {
                goOnAndLook(next);
                next++;
                if (mayCommit()) {
                    commit();
                    if (epoch == EPOCHS) {
                        return;
                    }
                    propose();
                    next = 0;
                    end = NODES - 1;
                }
            }
        }

        /** Goes on with an instance, and then with each one that gets the input 0. */
        private void goOnAndLook(int instance) {
            int next = instance;
            for (int turn = 0; turn <= NODES && next != NONE; turn++) {
                Broadcast broadcast = broadcastOf(next);
                Agreement agreement = agreementOf(next);
                broadcast.sendEchoIfDue();
                broadcast.sendReadyIfDue();
                broadcast.takeProposalIfDue();
                if (broadcast.proposal != NONE) {
                    agreement.giveInput(1);
                }
                agreement.goOn();
                next = instanceToRefuse();
                if (next != NONE) {
                    agreementOf(next).giveInput(0);
                }
            }
        }

        /** The least instance without an input if three others have decided 1, otherwise NONE. */
        private int instanceToRefuse() {
            int accepted = 0;
            int least = NONE;
            for (int i = NODES - 1; i >= 0; i--) {
                Agreement agreement = agreementOf(i);
                if (agreement.decided == 1) {
                    accepted++;
                }
                if (!agreement.hasInput()) {
                    least = i;
                }
            }
            return accepted >= MOST ? least : NONE;
        }

        private boolean mayCommit() {
            for (int i = 0; i < NODES; i++) {
                int decided = agreementOf(i).decided;
                if (decided == NONE || decided == 1 && broadcastOf(i).proposal == NONE) {
                    return false;
                }
            }
            return true;
        }

        private void commit() {
            for (int transaction = 1; transaction <= LAST_TRANSACTION; transaction++) {
                if (isAccepted(transaction) && !committed.has(transaction)) {
                    committed.append(transaction);
                    queued.drop(transaction);
                }
            }
            epoch++;
        }

        private boolean isAccepted(int transaction) {
            for (int i = 0; i < NODES; i++) {
                int proposal = broadcastOf(i).proposal;
                boolean isProposed = (proposal & 255) == transaction || (proposal >> 8 & 255) == transaction;
                if (isProposed && agreementOf(i).decided == 1) {
                    return true;
                }
            }
            return false;
        }
    }
}
