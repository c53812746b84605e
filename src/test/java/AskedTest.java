/** Promises 10 to 17: the calls that only ask. */
public final class AskedTest {
    public static void main(String[] args) {
        promise10Node();
        promise11Entry();
        promise12RegisterWrong();
        promise12Kinds();
        promise12Sure();
        promise13Known();
        promise14Letter();
        promise15Count();
        promise16Unlike();
        promise16EachField();
        promise17Digest();
        askingChangesNothing();
        Due.end();
    }

    private static void promise10Node() {
        ViewStamps x = new ViewStamps(5);
        for (int node : new int[] {-1, 5, 6, Integer.MIN_VALUE, Integer.MAX_VALUE}) {
            Due.due("no such node", x.node(node, 0), Steps.BAD);
        }
        for (int what : new int[] {-1, 9, Integer.MIN_VALUE, Integer.MAX_VALUE}) {
            Due.due("no such what", x.node(0, what), Steps.BAD);
        }
        for (int i = 0; i < 5; i++) {
            x.timeout(i);
        }
        for (int from = 0; from < 5; from++) {
            for (int to = 0; to < 5; to++) {
                if (from != to && from != 1) {
                    Steps.pass(x, from, to, Steps.CHANGE);
                }
            }
        }
        Steps.dueNode(x, 0, Steps.CHANGING, 1, 0, 0, 0, 3, 0, 1, 0);
        Steps.dueNode(x, 1, Steps.CHANGING, 1, 0, 0, 0, 4, 1, 1, 0);
        Steps.pass(x, 0, 1, Steps.VOTE);
        Steps.dueNode(x, 1, Steps.CHANGING, 1, 0, 0, 0, 4, 2, 1, 0);
        Steps.pass(x, 4, 1, Steps.VOTE);
        Steps.dueNode(x, 1, Steps.NORMAL, 1, 1, 0, 0, 0, 0, 0, 0);
        x.crash(0);
        Steps.dueNode(x, 0, Steps.CRASHED, 0, 0, 0, 0, 0, 0, 0, 0);
        x.recover(0, 5);
        Steps.pass(x, 0, 1, Steps.ASK);
        Steps.pass(x, 1, 0, Steps.TELL);
        Steps.dueNode(x, 0, Steps.RECOVERING, 0, 0, 0, 0, 0, 0, 0, 1);
        x.crash(0);
        Steps.dueNode(x, 0, Steps.CRASHED, 0, 0, 0, 0, 0, 0, 0, 0);
    }

    private static void promise11Entry() {
        ViewStamps x = new ViewStamps(3);
        x.request(0, 3, 999999, 2, 6, 7, -12);
        x.request(0, 1, 17, 1, 5, 4, Integer.MAX_VALUE);
        int[][] want = {{3, 999999, 2, 6, 7, -12}, {1, 17, 1, 5, 4, Integer.MAX_VALUE}};
        for (int i = 1; i <= 2; i++) {
            for (int what = 0; what <= 5; what++) {
                Due.due("entry(0, " + i + ", " + what + ")", x.entry(0, i, what), want[i - 1][what]);
            }
        }
        for (int i : new int[] {0, -1, 3, 17, Integer.MIN_VALUE, Integer.MAX_VALUE}) {
            Due.due("no such entry", x.entry(0, i, 0), Steps.LEAST);
        }
        for (int what : new int[] {-1, 6, Integer.MIN_VALUE, Integer.MAX_VALUE}) {
            Due.due("no such what", x.entry(0, 1, what), Steps.LEAST);
            Due.due("no such what", x.entry(0, 2, what), Steps.LEAST);
        }
        for (int node : new int[] {-1, 3, Integer.MIN_VALUE, Integer.MAX_VALUE}) {
            Due.due("no such node", x.entry(node, 1, 0), Steps.LEAST);
        }
        Due.due("another node has none", x.entry(1, 1, 0), Steps.LEAST);
        x.deliver(0);
        Due.due("it has one now", x.entry(1, 1, 1), 999999);
        Due.due("and no second", x.entry(1, 2, 1), Steps.LEAST);
    }

    private static void promise12RegisterWrong() {
        ViewStamps x = new ViewStamps(3);
        for (int r : new int[] {-1, 8, Integer.MIN_VALUE, Integer.MAX_VALUE}) {
            Due.due("no such register", x.register(0, r), Steps.LEAST);
        }
        for (int node : new int[] {-1, 3, Integer.MIN_VALUE, Integer.MAX_VALUE}) {
            Due.due("no such node", x.register(node, 0), Steps.LEAST);
        }
    }

    /** Does one entry at node 0, and makes it sure. */
    private static void stand(ViewStamps x, int kind, int a, int b, int v) {
        int number = x.node(0, 3) + 1;
        Due.due("request", x.request(0, 0, number, kind, a, b, v), number);
        Steps.pass(x, 0, 1, Steps.PREPARE);
        Steps.pass(x, 1, 0, Steps.OK);
        Due.due("sure", x.node(0, 4), number);
    }

    private static void dueRegisters(ViewStamps x, int... want) {
        for (int r = 0; r < 8; r++) {
            Due.due("register(0, " + r + ")", x.register(0, r), want[r]);
        }
    }

    private static void promise12Kinds() {
        ViewStamps x = new ViewStamps(3);
        stand(x, 0, 0, 5, 10);
        dueRegisters(x, 10, 0, 0, 0, 0, 0, 0, 0);
        stand(x, 1, 0, 5, -3);
        dueRegisters(x, 7, 0, 0, 0, 0, 0, 0, 0);
        stand(x, 2, 0, 7, 7);
        dueRegisters(x, 0, 0, 0, 0, 0, 0, 0, 7);
        stand(x, 2, 7, 1, 8);
        dueRegisters(x, 0, 0, 0, 0, 0, 0, 0, 7);
        stand(x, 2, 7, 7, 2);
        dueRegisters(x, 0, 0, 0, 0, 0, 0, 0, 7);
        stand(x, 2, 2, 3, -4);
        dueRegisters(x, 0, 0, 4, -4, 0, 0, 0, 7);
        stand(x, 0, 4, 0, Integer.MAX_VALUE);
        stand(x, 1, 4, 0, 1);
        dueRegisters(x, 0, 0, 4, -4, Integer.MIN_VALUE, 0, 0, 7);
        stand(x, 2, 4, 6, Integer.MIN_VALUE);
        dueRegisters(x, 0, 0, 4, -4, 0, 0, Integer.MIN_VALUE, 7);
        stand(x, 2, 2, 6, Integer.MIN_VALUE);
        dueRegisters(x, 0, 0, Integer.MIN_VALUE + 4, -4, 0, 0, 0, 7);
        stand(x, 0, 0, 0, 1);
        dueRegisters(x, 1, 0, Integer.MIN_VALUE + 4, -4, 0, 0, 0, 7);
        stand(x, 0, 0, 0, 2);
        dueRegisters(x, 2, 0, Integer.MIN_VALUE + 4, -4, 0, 0, 0, 7);
    }

    private static void promise12Sure() {
        ViewStamps x = new ViewStamps(3);
        Steps.set(x, 0, 1, 5);
        Due.due("not sure yet", x.register(0, 0), 0);
        x.deliver(0);
        x.deliver(2);
        Due.due("sure", x.register(0, 0), 5);
        Due.due("not sure at the other", x.register(1, 0), 0);
        Steps.set(x, 0, 2, 6);
        Due.due("the second is not", x.register(0, 0), 5);
        Steps.pass(x, 0, 1, Steps.PREPARE);
        Due.due("the other is sure of one", x.register(1, 0), 5);
        x.crash(0);
        Due.due("crashed", x.register(0, 0), 0);
    }

    private static void promise13Known() {
        ViewStamps x = new ViewStamps(3);
        for (int node : new int[] {-1, 3, Integer.MIN_VALUE, Integer.MAX_VALUE}) {
            Due.due("no such node", x.known(node, 0), Steps.BAD);
            Due.due("no such other", x.known(0, node), Steps.BAD);
            Due.due("BAD ahead of STATE", x.known(1, node), Steps.BAD);
        }
        Due.due("itself is not another", x.known(0, 0), Steps.BAD);
        Due.due("itself is not another", x.known(1, 1), Steps.BAD);
        Due.due("not the first", x.known(1, 0), Steps.STATE);
        Steps.set(x, 0, 1, 5);
        x.deliver(1);
        Due.due("the ok is not there yet", x.known(0, 2), 0);
        x.deliver(2);
        Due.due("known", x.known(0, 2), 1);
        Due.due("of another", x.known(0, 1), 0);
        x.timeout(0);
        Due.due("changing", x.known(0, 2), Steps.STATE);
        x.timeout(1);
        Due.due("first, but changing", x.known(1, 2), Steps.STATE);
        x.crash(0);
        Due.due("crashed", x.known(0, 2), Steps.STATE);
        x.recover(0, 1);
        Due.due("recovering", x.known(0, 2), Steps.STATE);
    }

    private static void promise14Letter() {
        ViewStamps x = new ViewStamps(3);
        Due.due("none yet", x.letter(0, 0), Steps.BAD);
        Steps.set(x, 0, 1, 5);
        for (int letter : new int[] {-1, 2, 240, Integer.MIN_VALUE, Integer.MAX_VALUE}) {
            Due.due("no such letter", x.letter(letter, 0), Steps.BAD);
        }
        for (int what : new int[] {-1, 8, Integer.MIN_VALUE, Integer.MAX_VALUE}) {
            Due.due("no such what", x.letter(0, what), Steps.BAD);
        }
        x.deliver(0);
        x.deliver(2);
        Steps.dueLetter(x, 0, 0, 1, Steps.PREPARE, 0, 1, 0, 0, 0);
        Steps.dueLetter(x, 2, 1, 0, Steps.OK, 0, 0, 0, 1, 0);
        x.timeout(0);
        Steps.dueLetter(x, 4, 0, 2, Steps.CHANGE, 1, 0, 0, 0, 0);
        x.drop(4);
        Steps.dueLetter(x, 4, 0, 2, Steps.CHANGE, 1, 0, 0, 0, 1);
        Due.due("dropped, no such what", x.letter(4, 8), Steps.BAD);
        Steps.pass(x, 0, 1, Steps.CHANGE);
        Steps.pass(x, 1, 0, Steps.CHANGE);
        int vote = Steps.find(x, 0, 1, Steps.VOTE);
        Steps.dueLetter(x, vote, 0, 1, Steps.VOTE, 1, 1, 1, 0, 0);
        x.deliver(vote);
        int begin = Steps.find(x, 1, 0, Steps.BEGIN);
        Steps.dueLetter(x, begin, 1, 0, Steps.BEGIN, 1, 1, 1, 0, 0);
        x.crash(2);
        x.recover(2, 31);
        Steps.dueLetter(x, Steps.find(x, 2, 1, Steps.ASK), 2, 1, Steps.ASK, 0, 0, 0, 31, 0);
        Steps.pass(x, 2, 1, Steps.ASK);
        Steps.dueLetter(x, Steps.find(x, 1, 2, Steps.TELL), 1, 2, Steps.TELL, 1, 1, 1, 31, 0);
    }

    private static void promise15Count() {
        ViewStamps x = new ViewStamps(5);
        for (int what : new int[] {-1, 5, Integer.MIN_VALUE, Integer.MAX_VALUE}) {
            Due.due("no such what", x.count(what), Steps.BAD);
        }
        Steps.set(x, 0, 1, 1);
        Due.due("letters", x.count(0), 4);
        x.drop(1);
        x.drop(3);
        x.drop(3);
        Due.due("dropped", x.count(1), 2);
        Due.due("dropped ones are letters", x.count(0), 4);
        x.cut(0, 4, true);
        x.cut(4, 0, true);
        x.cut(4, 3, true);
        Due.due("lines", x.count(3), 2);
        x.cut(0, 4, false);
        Due.due("lines", x.count(3), 1);
        x.timeout(1);
        x.crash(2);
        x.crash(3);
        x.recover(3, 1);
        Due.due("normal", x.count(4), 2);
        while (x.count(0) < 238) {
            x.resend(4);
        }
        Due.due("none lost", x.count(2), 0);
        x.resend(0);
        Due.due("two fit, two are lost", x.count(2), 2);
        Due.due("the pool is full", x.count(0), 240);
        Due.due("the last one that fits", x.letter(239, 1), 2);
    }

    private static void promise16Unlike() {
        ViewStamps x = new ViewStamps(3);
        NodesTest.forgetfulNodeOne(x);
        Steps.nodeOneLeads(x);
        x.request(1, 1, 1, 0, 1, 0, 41);
        Due.due("not sure yet", x.unlike(), ViewStamps.NONE);
        Steps.pass(x, 1, 2, Steps.PREPARE);
        Steps.pass(x, 2, 1, Steps.OK);
        Steps.dueNode(x, 0, Steps.NORMAL, 0, 0, 1, 1);
        Steps.dueNode(x, 1, Steps.NORMAL, 1, 1, 1, 1);
        Due.due("0 and 1", x.unlike(), 1);
        x.resend(1);
        Steps.pass(x, 1, 2, Steps.PREPARE);
        Steps.dueNode(x, 2, Steps.NORMAL, 1, 1, 1, 1);
        Due.due("0 and 1 still", x.unlike(), 1);
        x.crash(1);
        Due.due("0 and 2", x.unlike(), 2);
        x.crash(0);
        Due.due("one is left", x.unlike(), ViewStamps.NONE);
    }

    /** Entries at node 0 and at node 1 that differ in one field alone, both sure: 1; like ones: NONE. */
    private static void promise16EachField() {
        int[] base = {0, 1, 0, 0, 0, 40};
        for (int field = -1; field < 6; field++) {
            int[] e = base.clone();
            if (field >= 0) {
                e[field]++;
            }
            ViewStamps x = new ViewStamps(3);
            NodesTest.forgetfulNodeOne(x);
            Steps.nodeOneLeads(x);
            x.request(1, e[0], e[1], e[2], e[3], e[4], e[5]);
            Steps.pass(x, 1, 2, Steps.PREPARE);
            Steps.pass(x, 2, 1, Steps.OK);
            Due.due("unlike by field " + field, x.unlike(), field < 0 ? ViewStamps.NONE : 1);
        }
    }

    private static void promise17Digest() {
        long h = 17;
        for (int i = 0; i < 3 * (9 + 8); i++) {
            h *= 31;
        }
        Due.due("digest of a new object", new ViewStamps(3).digest(), h);
        ViewStamps x = new ViewStamps(5);
        Due.due("digest", x.digest(), Steps.sum(x));
        x.request(0, 1, 2, 0, 3, 4, -5);
        Due.due("digest", x.digest(), Steps.sum(x));
        x.deliver(0);
        x.deliver(1);
        x.deliver(4);
        x.deliver(5);
        Due.due("register", x.register(0, 3), -5);
        Due.due("digest", x.digest(), Steps.sum(x));
        x.timeout(3);
        Steps.pass(x, 3, 2, Steps.CHANGE);
        x.drop(2);
        x.crash(4);
        x.recover(4, 6);
        Steps.pass(x, 4, 0, Steps.ASK);
        Steps.pass(x, 0, 4, Steps.TELL);
        Due.due("digest", x.digest(), Steps.sum(x));
        long before = x.digest();
        x.cut(0, 1, true);
        Due.due("lines are not in it", x.digest(), before);
    }

    private static void askingChangesNothing() {
        ViewStamps x = new ViewStamps(3);
        Steps.set(x, 0, 1, 3);
        x.deliver(0);
        x.deliver(2);
        long before = x.digest();
        for (int i = -1; i < 10; i++) {
            for (int j = -1; j < 10; j++) {
                x.node(i, j);
                x.entry(i, j, 0);
                x.register(i, j);
                x.known(i, j);
                x.letter(i, j);
                x.count(j);
            }
        }
        x.unlike();
        Due.due("digest", x.digest(), before);
    }
}
