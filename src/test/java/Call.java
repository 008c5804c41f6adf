import java.util.Arrays;
import java.util.Locale;

/** One call of the face, with its arguments; a boolean answer counts 1 or 0. */
final class Call {
    enum Name { SUBMIT, BEGIN, RUN, DELIVER, BETRAY, SPEAK, EPOCH, LEDGER, QUEUE, WAITING, INSTANCE, COIN, ROOT }

    final Name name;
    private final int[] args;

    Call(Name name, int... args) {
        this.name = name;
        this.args = args;
    }

    /** What the call answers when it is refused, or when there is nothing to answer. */
    int refusal() {
        boolean isBoolean = name == Name.SUBMIT || name == Name.BEGIN || name == Name.BETRAY || name == Name.SPEAK;
        return isBoolean ? 0 : -1;
    }

    int on(EpochLedger x) {
        switch (name) {
            case SUBMIT: return x.submit(args[0], args[1]) ? 1 : 0;
            case BEGIN: return x.begin(args[0]) ? 1 : 0;
            case RUN: return x.run(args[0], args[1]);
            case DELIVER: return x.deliver(args[0], args[1]);
            case BETRAY: return x.betray() ? 1 : 0;
            case SPEAK: return x.speak(args[0], args[1], args[2], args[3], args[4], args[5]) ? 1 : 0;
            case EPOCH: return x.epoch(args[0]);
            case LEDGER: return x.ledger(args[0], args[1]);
            case QUEUE: return x.queue(args[0], args[1]);
            case WAITING: return x.waiting(args[0]);
            case INSTANCE: return x.instance(args[0], args[1], args[2]);
            case COIN: return x.coin(args[0], args[1], args[2]);
            default: return x.root(args[0], args[1]);
        }
    }

    /** The same on the model, for the calls that change something. */
    void follow(LedgerModel x) {
        switch (name) {
            case SUBMIT: x.submit(args[0], args[1]); break;
            case BEGIN: x.begin(args[0]); break;
            case RUN: x.run(args[0], args[1]); break;
            case DELIVER: x.deliver(args[0], args[1]); break;
            case BETRAY: x.betray(); break;
            case SPEAK: x.speak(args[0], args[1], args[2], args[3], args[4], args[5]); break;
            default: break;
        }
    }

    @Override
    public String toString() {
        String list = Arrays.toString(args);
        return name.toString().toLowerCase(Locale.ROOT) + "(" + list.substring(1, list.length() - 1) + ")";
    }
}
