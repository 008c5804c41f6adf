import java.util.ArrayList;
import java.util.List;

/** Calls on one object, each with the answer that is due. */
final class Play {
    static final int CALLS_MOST = 512;
    static final int NODES = 4;

    /** Tells which messages are meant, by the node that they wait for and what they are. */
    interface Which {
        boolean is(int node, LedgerModel.Msg message);
    }

    private static final List<Call> QUESTIONS = new ArrayList<>();
    private static final List<Call> LATER_CALLS = new ArrayList<>();

    static {
        Ask questions = adderTo(QUESTIONS);
        for (int node = 0; node < NODES; node++) {
            askAllOf(node, questions);
        }
        Ask later = adderTo(LATER_CALLS);
        for (int node = 0; node < NODES; node++) {
            later.submit(node, 240 + node);
            later.begin(node);
        }
        runAllNodes(later, 8, 11);
        later.betray();
        later.speak(0, 0, 3, LedgerModel.READY, 5, 0);
        later.speak(1, 0, 0, LedgerModel.VOTE, 0, 0);
        runAllNodes(later, 4, 30);
        for (int node = 0; node < NODES; node++) {
            askShort(node, later);
        }
    }

    private final Due due;
    private final int seed;
    private final EpochLedger ledger;
    /** Follows all calls, only to tell which message waits at which place: no answer of it is taken for the due one. */
    private final LedgerModel guide;
    private final List<Call> made = new ArrayList<>();
    private List<Integer> shown = null;

    Play(Due due, int seed) {
        this.due = due;
        this.seed = seed;
        ledger = new EpochLedger(seed);
        guide = new LedgerModel(seed);
    }

    private static Ask adderTo(List<Call> list) {
        return new Ask() {
            @Override
            int ask(Call call) {
                list.add(call);
                return 0;
            }
        };
    }

    private static void askAllOf(int node, Ask questions) {
        questions.epoch(node);
        questions.waiting(node);
        for (int k = -1; k <= 32; k++) {
            questions.ledger(node, k);
        }
        for (int k = -1; k <= 12; k++) {
            questions.queue(node, k);
        }
        askInstances(node, questions);
    }

    private static void askShort(int node, Ask questions) {
        questions.epoch(node);
        questions.waiting(node);
        questions.ledger(node, -1);
        questions.queue(node, -1);
        askInstances(node, questions);
    }

    private static void askInstances(int node, Ask questions) {
        for (int instance = 0; instance < NODES; instance++) {
            for (int what = 0; what <= 6; what++) {
                questions.instance(node, instance, what);
            }
        }
    }

    private static void runAllNodes(Ask calls, int turns, int n) {
        for (int turn = 0; turn < turns; turn++) {
            for (int node = 0; node < NODES; node++) {
                calls.run(node, n);
            }
        }
    }

    /** Numbers on both sides of a range: the first ones, the last ones, and some with the same lowest bits as one inside. */
    static int[] outside(int least, int most) {
        return new int[] {least - 1, most + 1, least - 4, most + 4, least - 256, most + 256, least - 65536, most + 65536,
            Integer.MIN_VALUE, Integer.MIN_VALUE + 1, Integer.MIN_VALUE + 3, Integer.MAX_VALUE - 3, Integer.MAX_VALUE - 1,
            Integer.MAX_VALUE};
    }

    // ---- calls and their answers

    private int make(Call call) {
        call.follow(guide);
        made.add(call);
        shown = null;
        if (made.size() > CALLS_MOST) {
            throw new IllegalStateException("an object is used for at most 512 calls");
        }
        return call.on(ledger);
    }

    /** The call that follows gives this answer. */
    Ask gives(int want) {
        return new Ask() {
            @Override
            int ask(Call call) {
                int got = make(call);
                due.is("call " + made.size() + ", " + call, want, got);
                return got;
            }
        };
    }

    Ask yes() {
        return gives(1);
    }

    /** The call that follows is made, whatever its answer is. */
    Ask does() {
        return new Ask() {
            @Override
            int ask(Call call) {
                return make(call);
            }
        };
    }

    /** The call that follows is refused, or finds nothing, and no other call ever shows that it was made. */
    Ask refuses() {
        return new Ask() {
            @Override
            int ask(Call call) {
                return changesNothing(call, call.refusal());
            }
        };
    }

    /** The call that follows gives this answer, and no other call ever shows that it was made. */
    Ask onlyAnswers(int want) {
        return new Ask() {
            @Override
            int ask(Call call) {
                return changesNothing(call, want);
            }
        };
    }

    private int changesNothing(Call call, int want) {
        int got = call.on(again());
        due.is("behind " + made.size() + " calls, " + call, want, got);
        if (shown == null) {
            shown = answersBehind(null);
        }
        List<Integer> answers = answersBehind(call);
        if (!answers.equals(shown)) {
            int at = 0;
            while (answers.get(at).equals(shown.get(at))) {
                at++;
            }
            String other = (at < QUESTIONS.size() ? QUESTIONS.get(at) : LATER_CALLS.get(at - QUESTIONS.size())).toString();
            due.fault("behind " + made.size() + " calls, " + call + " lets " + other + " answer " + answers.get(at)
                + " instead of " + shown.get(at));
        }
        return got;
    }

    private EpochLedger again() {
        EpochLedger other = new EpochLedger(seed);
        for (Call call : made) {
            call.on(other);
        }
        return other;
    }

    /** What all questions and some later calls answer behind the calls made and one more, each time on new objects. */
    private List<Integer> answersBehind(Call more) {
        List<Integer> answers = new ArrayList<>();
        int room = CALLS_MOST - made.size() - 1;
        EpochLedger other = null;
        for (int i = 0; i < QUESTIONS.size(); i++) {
            if (i % room == 0) {
                other = againAnd(more);
            }
            answers.add(QUESTIONS.get(i).on(other));
        }
        other = againAnd(more);
        for (int i = 0; i < Math.min(room, LATER_CALLS.size()); i++) {
            answers.add(LATER_CALLS.get(i).on(other));
        }
        return answers;
    }

    private EpochLedger againAnd(Call more) {
        EpochLedger other = again();
        if (more != null) {
            more.on(other);
        }
        return other;
    }

    // ---- scenes

    Play begin(int... nodes) {
        for (int node : nodes) {
            yes().begin(node);
        }
        return this;
    }

    /** Node 3 betrays the others, who have begun. */
    Play betray() {
        yes().betray();
        return begin(0, 1, 2);
    }

    Play submit(int node, int... transactions) {
        for (int transaction : transactions) {
            yes().submit(node, transaction);
        }
        return this;
    }

    /** The traitor speaks to a node, and this reaches it at once. */
    void hears(int node, int epoch, int instance, int kind, int a, int b) {
        yes().speak(node, epoch, instance, kind, a, b);
        gives(kind).deliver(node, guide.waitingFor(node).size() - 1);
    }

    /** The first message of a sender, an instance and a kind that waits for a node reaches it. */
    void reaches(int node, int sender, int instance, int kind) {
        List<LedgerModel.Msg> waiting = guide.waitingFor(node);
        for (int k = 0; k < waiting.size(); k++) {
            LedgerModel.Msg m = waiting.get(k);
            if (m.sender == sender && m.instance == instance && m.kind == kind) {
                gives(kind).deliver(node, k);
                return;
            }
        }
        due.fault("nothing of sender " + sender + ", instance " + instance + ", kind " + kind + " waits for " + node);
    }

    /** All messages that are meant reach their nodes, with those that come meanwhile. */
    void flow(Which which) {
        boolean goesOn = true;
        while (goesOn) {
            goesOn = false;
            for (int node = 0; node < NODES; node++) {
                goesOn |= flowTo(node, which);
            }
        }
    }

    private boolean flowTo(int node, Which which) {
        List<LedgerModel.Msg> waiting = guide.waitingFor(node);
        int first = 0;
        while (first < waiting.size() && which.is(node, waiting.get(first))) {
            first++;
        }
        if (first > 0) {
            does().run(node, Math.min(first, 60));
            return true;
        }
        while (first < waiting.size() && !which.is(node, waiting.get(first))) {
            first++;
        }
        if (first < waiting.size()) {
            does().deliver(node, first);
        }
        return first < waiting.size();
    }

    /** Answers of instance to what 0, 1, 2 and so on. */
    void shows(int node, int instance, int... want) {
        for (int what = 0; what < want.length; what++) {
            gives(want[what]).instance(node, instance, what);
        }
    }

    /** All that a row of transactions has, its length and its end. */
    void hasLedger(int node, int... want) {
        gives(want.length).ledger(node, -1);
        for (int k = 0; k < want.length; k++) {
            gives(want[k]).ledger(node, k);
        }
        gives(-1).ledger(node, want.length);
    }

    void hasQueue(int node, int... want) {
        gives(want.length).queue(node, -1);
        for (int k = 0; k < want.length; k++) {
            gives(want[k]).queue(node, k);
        }
        gives(-1).queue(node, want.length);
    }
}
