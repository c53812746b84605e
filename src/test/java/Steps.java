/** Steps that many tests take, and sums that the document tells in terms of other calls. */
final class Steps {
    static final int BAD = -2, STATE = -3, FULL = -4, LEAST = Integer.MIN_VALUE;
    static final int NORMAL = 0, CHANGING = 1, RECOVERING = 2, CRASHED = 3;
    static final int PREPARE = 1, OK = 2, CHANGE = 3, VOTE = 4, BEGIN = 5, ASK = 6, TELL = 7;

    private Steps() {
    }

    /** A SET of register 0 by client 0, with that number. */
    static int set(ViewStamps x, int node, int number, int v) {
        return x.request(node, 0, number, 0, 0, 0, v);
    }

    /** The latest LETTER of that sort between two NODES, or -1. */
    static int find(ViewStamps x, int from, int to, int sort) {
        for (int i = x.count(0) - 1; i >= 0; i--) {
            if (x.letter(i, 0) == from && x.letter(i, 1) == to && x.letter(i, 2) == sort) {
                return i;
            }
        }
        return -1;
    }

    /** Delivers the latest LETTER of that sort between two NODES. */
    static int pass(ViewStamps x, int from, int to, int sort) {
        return x.deliver(find(x, from, to, sort));
    }

    /** The digest as promise 17 tells it, by the other calls. */
    static long sum(ViewStamps x) {
        long h = 17;
        for (int n = 0; x.node(n, 0) >= 0; n++) {
            for (int what = 0; what <= 8; what++) {
                h = 31 * h + x.node(n, what);
            }
            for (int i = 1; i <= x.node(n, 3); i++) {
                for (int what = 0; what <= 5; what++) {
                    h = 31 * h + x.entry(n, i, what);
                }
            }
            for (int r = 0; r <= 7; r++) {
                h = 31 * h + x.register(n, r);
            }
        }
        for (int i = 0; i < x.count(0); i++) {
            for (int what = 0; what <= 7; what++) {
                h = 31 * h + x.letter(i, what);
            }
        }
        return h;
    }

    static void dueNode(ViewStamps x, int node, int... want) {
        for (int what = 0; what < want.length; what++) {
            Due.due("node(" + node + ", " + what + ")", x.node(node, what), want[what]);
        }
    }

    static void dueLetter(ViewStamps x, int letter, int... want) {
        for (int what = 0; what < want.length; what++) {
            Due.due("letter(" + letter + ", " + what + ")", x.letter(letter, what), want[what]);
        }
    }

    /** Node 1 leads view 1 of three nodes, with the votes of 1 and 2; node 0 has heard nothing of it. */
    static void nodeOneLeads(ViewStamps x) {
        x.timeout(2);
        pass(x, 2, 1, CHANGE);
        pass(x, 1, 2, CHANGE);
        pass(x, 2, 1, VOTE);
    }
}
