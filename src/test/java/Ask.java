/** The calls of the face; what is done with one and its answer is left open. */
abstract class Ask {
    abstract int ask(Call call);

    int submit(int node, int transaction) {
        return ask(new Call(Call.Name.SUBMIT, node, transaction));
    }

    int begin(int node) {
        return ask(new Call(Call.Name.BEGIN, node));
    }

    int run(int node, int n) {
        return ask(new Call(Call.Name.RUN, node, n));
    }

    int deliver(int node, int k) {
        return ask(new Call(Call.Name.DELIVER, node, k));
    }

    int betray() {
        return ask(new Call(Call.Name.BETRAY));
    }

    int speak(int node, int epoch, int instance, int kind, int a, int b) {
        return ask(new Call(Call.Name.SPEAK, node, epoch, instance, kind, a, b));
    }

    int epoch(int node) {
        return ask(new Call(Call.Name.EPOCH, node));
    }

    int ledger(int node, int k) {
        return ask(new Call(Call.Name.LEDGER, node, k));
    }

    int queue(int node, int k) {
        return ask(new Call(Call.Name.QUEUE, node, k));
    }

    int waiting(int node) {
        return ask(new Call(Call.Name.WAITING, node));
    }

    int instance(int node, int instance, int what) {
        return ask(new Call(Call.Name.INSTANCE, node, instance, what));
    }

    int coin(int epoch, int instance, int round) {
        return ask(new Call(Call.Name.COIN, epoch, instance, round));
    }

    int root(int p, int q) {
        return ask(new Call(Call.Name.ROOT, p, q));
    }
}
