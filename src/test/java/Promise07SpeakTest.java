/** Promise 7: speak. */
public final class Promise07SpeakTest {
    private static final int[] ANY = {0, 1, -1, 6, 255, 256, Integer.MAX_VALUE, Integer.MIN_VALUE};

    @Sentence(promise = 7, says = "The traitor sends a message to one node (it has reached the others).")
    static void toOneNode(Due due) {
        for (int node = 0; node < 4; node++) {
            for (int kind = 0; kind <= 4; kind++) {
                Play x = new Play(due, 5);
                x.yes().betray();
                x.yes().speak(node, 0, 3, kind, 0, 0);
                for (int other = 0; other < 4; other++) {
                    x.gives(other == node ? 1 : 0).waiting(other);
                }
                x.gives(kind).deliver(node, 0);
                x.gives(0).waiting(node);
            }
        }
    }

    @Sentence(promise = 7, says = "The traitor sends a message: Terms: it is put behind all those sent before.")
    static void behindThoseSentBefore(Due due) {
        Play x = new Play(due, 5).betray();
        x.yes().speak(0, 0, 3, Scenes.SURE, 0, 0);
        x.yes().speak(0, 0, 3, Scenes.VOTE, 0, 0);
        x.gives(3).run(0, 3);
        x.gives(4).deliver(0, 0);
        x.gives(3).deliver(0, 0);
        x.gives(1).deliver(0, 0);
    }

    @Sentence(promise = 7, says = "about epoch and instance, of a kind: true: the least and the largest of each.")
    static void inside(Due due) {
        Play x = new Play(due, 5);
        x.yes().betray();
        for (int kind = 0; kind <= 4; kind++) {
            for (int edge = 0; edge < 16; edge++) {
                x.yes().speak(3 * (edge & 1), 3 * (edge >> 1 & 1), 3 * (edge >> 2 & 1), kind, 5 * (edge >> 3), edge >> 3);
            }
        }
        x.gives(40).waiting(0);
        x.gives(40).waiting(3);
    }

    @Sentence(promise = 7, says = "False if there is no traitor.")
    static void noTraitor(Due due) {
        Play x = new Play(due, 5).begin(0, 1, 2, 3);
        for (int kind = 0; kind <= 4; kind++) {
            for (int node = 0; node < 4; node++) {
                x.refuses().speak(node, 0, 3, kind, 0, 0);
            }
        }
        x.yes().betray();
        x.yes().speak(0, 0, 3, 0, 0, 0);
    }

    @Sentence(promise = 7, says = "False if there is no such node. Terms: NODES are 0 .. 3.")
    static void noSuchNode(Due due) {
        Play x = new Play(due, 5).betray();
        for (int node : Play.outside(0, 3)) {
            for (int kind = 0; kind <= 4; kind++) {
                x.refuses().speak(node, 0, 3, kind, 0, 0);
            }
        }
    }

    @Sentence(promise = 7, says = "False if there is no such epoch. Terms: EPOCHS are 0 .. 3.")
    static void noSuchEpoch(Due due) {
        Play x = new Play(due, 5).betray();
        for (int epoch : Play.outside(0, 3)) {
            for (int kind = 0; kind <= 4; kind++) {
                x.refuses().speak(0, epoch, 3, kind, 0, 0);
            }
        }
    }

    @Sentence(promise = 7, says = "False if there is no such instance. Terms: an INSTANCE (a node).")
    static void noSuchInstance(Due due) {
        Play x = new Play(due, 5).betray();
        for (int instance : Play.outside(0, 3)) {
            for (int kind = 0; kind <= 4; kind++) {
                x.refuses().speak(0, 0, instance, kind, 0, 0);
            }
        }
    }

    @Sentence(promise = 7, says = "False if there is no such kind.")
    static void noSuchKind(Due due) {
        Play x = new Play(due, 5).betray();
        for (int kind : Play.outside(0, 4)) {
            x.refuses().speak(0, 0, 3, kind, 0, 0);
            x.refuses().speak(3, 3, 0, kind, 5, 1);
        }
    }

    @Sentence(promise = 7, says = "False if a is no round where it should be. Terms: ROUNDS 0 .. 5.")
    static void noRound(Due due) {
        Play x = new Play(due, 5).betray();
        for (int round : Play.outside(0, 5)) {
            for (int bit = 0; bit < 2; bit++) {
                x.refuses().speak(0, 0, 3, Scenes.VOTE, round, bit);
                x.refuses().speak(0, 0, 3, Scenes.SURE, round, bit);
            }
        }
        for (int round = 0; round <= 5; round++) {
            x.yes().speak(0, 0, 3, Scenes.VOTE, round, 0);
            x.yes().speak(0, 0, 3, Scenes.SURE, round, 1);
        }
    }

    @Sentence(promise = 7, says = "False if b is no bit where it should be.")
    static void noBit(Due due) {
        Play x = new Play(due, 5).betray();
        for (int bit : Play.outside(0, 1)) {
            x.refuses().speak(0, 0, 3, Scenes.VOTE, 0, bit);
            x.refuses().speak(0, 0, 3, Scenes.SURE, 0, bit);
            x.refuses().speak(0, 0, 3, Scenes.VOTE, 5, bit);
            x.refuses().speak(0, 0, 3, Scenes.SURE, 5, bit);
        }
    }

    @Sentence(promise = 7,
        says = "a is the root, b the witness's bytes and number for VALUE and ECHO, a the root for READY: any.")
    static void anyRootAndWitness(Due due) {
        Play x = new Play(due, 5);
        x.yes().betray();
        for (int kind = 0; kind <= 2; kind++) {
            for (int a : ANY) {
                for (int b : ANY) {
                    x.yes().speak(kind, 0, 3, kind, a, b);
                }
            }
        }
        for (int node = 0; node < 3; node++) {
            x.gives(ANY.length * ANY.length).waiting(node);
        }
    }

    @Sentence(promise = 7, says = "False if there were 300 such messages.")
    static void the301st(Due due) {
        Play x = new Play(due, 5);
        x.yes().betray();
        for (int i = 0; i < 300; i++) {
            x.yes().speak(i % 4, i % 3, i % 4, i % 5, 0, 0);
        }
        for (int kind = 0; kind <= 4; kind++) {
            x.refuses().speak(kind % 4, 0, 3, kind, 0, 0);
        }
        x.gives(60).run(0, 60);
        x.refuses().speak(0, 0, 3, 2, 0, 0);
        x.gives(75).waiting(3);
    }

    @Sentence(promise = 7, says = "False if there were 300 such messages: those refused are none.")
    static void refusedOnesAreNotCounted(Due due) {
        Play x = new Play(due, 5);
        for (int i = 0; i < 20; i++) {
            x.gives(0).speak(0, 0, 3, 2, 0, 0);
        }
        x.yes().betray();
        for (int i = 0; i < 20; i++) {
            x.gives(0).speak(4, 0, 3, 2, 0, 0);
            x.gives(0).speak(0, 4, 3, 2, 0, 0);
            x.gives(0).speak(0, 0, 4, 2, 0, 0);
            x.gives(0).speak(0, 0, 3, 5, 0, 0);
            x.gives(0).speak(0, 0, 3, 3, 6, 0);
            x.gives(0).speak(0, 0, 3, 4, 0, 2);
        }
        for (int i = 0; i < 300; i++) {
            x.yes().speak(0, 0, 3, 2, 0, 0);
        }
        x.gives(0).speak(0, 0, 3, 2, 0, 0);
        x.gives(300).waiting(0);
    }

    @Sentence(promise = 7, says = "The traitor sends a message: the same one again, too.")
    static void theSameAgain(Due due) {
        Play x = new Play(due, 5);
        x.yes().betray();
        for (int kind = 0; kind <= 4; kind++) {
            x.yes().speak(1, 0, 3, kind, 0, 0);
            x.yes().speak(1, 0, 3, kind, 0, 0);
        }
        x.gives(10).waiting(1);
    }

    /** With the root that these bytes and this number give for a node, the VALUE is answered by an ECHO. */
    @Sentence(promise = 7,
        says = "b the witness's bytes and number (the byte + 256 * the other leaf + 65536 * the other half).")
    static void rightWitnesses(Due due) {
        int[] witnesses = {0, -1, 255, 255 << 8, 65535 << 16, Integer.MAX_VALUE, Integer.MIN_VALUE, 128, 128 << 8, 1 << 16,
            0x8000FF80};
        for (int b : witnesses) {
            for (int node = 0; node < 3; node++) {
                Play x = new Play(due, 5).begin(node);
                x.yes().betray();
                int root = rootOf(node, b & 255, b >>> 8 & 255, b >>> 16);
                x.hears(node, 0, 3, Scenes.VALUE, root, b);
                x.shows(node, 3, 1);
            }
        }
    }

    /** Four bytes for each of these roots, found by going back from it. */
    @Sentence(promise = 7, says = "a is the root: 0, -1, the largest and the least int are roots, too.")
    static void anyRootIsOne(Due due) {
        int[] roots = {0, -1, Integer.MAX_VALUE, Integer.MIN_VALUE};
        int[][] bytes = {{176, 104, 119, 137}, {225, 156, 243, 224}, {97, 156, 243, 224}, {48, 104, 119, 137}};
        for (int i = 0; i < roots.length; i++) {
            for (int node = 0; node < 3; node++) {
                Play x = new Play(due, 5).begin(node);
                x.yes().betray();
                x.hears(node, 0, 3, Scenes.VALUE, roots[i], Scenes.witness(node, bytes[i]));
                x.shows(node, 3, 1);
                x.hears(node, 0, 3, Scenes.READY, roots[i], 0);
                x.shows(node, 3, 1);
                x.hears(node, 0, 3, Scenes.VALUE, Scenes.ROOT, Scenes.WITNESSES[node]);
                x.gives(2).waiting(3);
            }
        }
    }

    private static int rootOf(int k, int x, int otherLeaf, int otherHalf) {
        int leaf = LedgerModel.leaf(k, x);
        int half = k % 2 == 0 ? LedgerModel.half(leaf, otherLeaf) : LedgerModel.half(otherLeaf, leaf);
        return k < 2 ? LedgerModel.top(half, otherHalf) : LedgerModel.top(otherHalf, half);
    }

    @Sentence(promise = 7,
        says = "Terms: it is RIGHT if the root is the one that these give: any other bit makes it wrong, for a VALUE.")
    static void wrongValues(Due due) {
        for (int node = 0; node < 3; node++) {
            Play x = new Play(due, 5).begin(node);
            x.yes().betray();
            for (int bit = 0; bit < 32; bit++) {
                x.hears(node, 0, 3, Scenes.VALUE, Scenes.ROOT, Scenes.WITNESSES[node] ^ 1 << bit);
                x.hears(node, 0, 3, Scenes.VALUE, Scenes.ROOT ^ 1 << bit, Scenes.WITNESSES[node]);
            }
            x.shows(node, 3, 0);
            x.gives(1).waiting(3);
            x.hears(node, 0, 3, Scenes.VALUE, Scenes.ROOT, Scenes.WITNESSES[node]);
            x.shows(node, 3, 1);
            x.gives(2).waiting(3);
        }
    }

    @Sentence(promise = 7,
        says = "Terms: it is RIGHT if the root is the one that these give: any other bit makes it wrong, for an ECHO.")
    static void wrongEchoes(Due due) {
        Play x = Scenes.twoEchoes(due);
        for (int bit = 0; bit < 32; bit++) {
            x.hears(0, 0, 0, Scenes.ECHO, Scenes.ROOT, Scenes.WITNESSES[3] ^ 1 << bit);
            x.hears(0, 0, 0, Scenes.ECHO, Scenes.ROOT ^ 1 << bit, Scenes.WITNESSES[3]);
        }
        x.shows(0, 0, 1);
        x.hears(0, 0, 0, Scenes.ECHO, Scenes.ROOT, Scenes.WITNESSES[3]);
        x.shows(0, 0, 3);
    }

    @Sentence(promise = 7, says = "Terms: 0 VALUE (a witness for the node that it is for).")
    static void witnessForTheReceiver(Due due) {
        for (int node = 0; node < 3; node++) {
            Play x = new Play(due, 5).begin(node);
            x.yes().betray();
            for (int k = 0; k < 4; k++) {
                if (k != node) {
                    x.hears(node, 0, 3, Scenes.VALUE, Scenes.ROOT, Scenes.WITNESSES[k]);
                }
            }
            x.shows(node, 3, 0);
        }
    }

    @Sentence(promise = 7, says = "Terms: 1 ECHO (a witness for the sender).")
    static void witnessForTheSender(Due due) {
        Play x = Scenes.twoEchoes(due);
        for (int k = 0; k < 3; k++) {
            x.hears(0, 0, 0, Scenes.ECHO, Scenes.ROOT, Scenes.WITNESSES[k]);
        }
        x.shows(0, 0, 1);
    }

    public static void main(String[] args) throws IllegalAccessException {
        Sentences.test(Promise07SpeakTest.class);
    }
}
