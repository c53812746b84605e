/** Promises 10 to 17: the calls that only ask. */
final class AskedEdges {
    private static final int MIN = Integer.MIN_VALUE, MAX = Integer.MAX_VALUE;

    private AskedEdges() {
    }

    static void test() {
        ofANode();
        votesOnlyWhenChanging();
        talesOnlyWhenRecovering();
        nodeBad();
        ofAnEntry();
        entryBad();
        ofARegister();
        registerBad();
        knownOfAnother();
        knownBadAndState();
        ofALetter();
        letterBad();
        countLetters();
        countDropped();
        countLost();
        countLines();
        countNormal();
        countBad();
        unlikePairs();
        unlikeUpToTheLesserSure();
        unlikeByEachField();
        unlikeNone();
        digestOfANewObject();
        digestOfAll();
        digestWraps();
    }

    private static int[] noNodes(int size) {
        return new int[] {-1, size, size == 3 ? 4 : 6, MIN, MAX};
    }

    // ---- promise 10

    private static void ofANode() {
        Sentence.is("Promise 10", "Of a NODE: 0 STATUS, 1 VIEW, 2 LAST VIEW, 3 how many ENTRIES its LOG has, 4 SURE,");
        Run run = new Run(3);
        run.lead(1, 0, 1);
        for (int v = 1; v <= 3; v++) {
            run.set(1, v);
        }
        run.pass(1, 0, Steps.PREPARE);
        run.pass(0, 1, Steps.OK);
        run.set(1, 4);
        run.timeout(1);
        run.timeout(1);
        run.timeout(1);
        int[] want = {1, 4, 1, 4, 3};
        for (int what = 0; what <= 4; what++) {
            run.still(want[what]).node(1, what);
        }
    }

    private static void votesOnlyWhenChanging() {
        Sentence.is("Promise 10", "5 VOTERS, 6 VOTES, 7 whether it has voted in its VIEW (1, 0; 5 to 7: 0 unless it is CHANGING),");
        Run run = new Run(5);
        run.vote(1, 0, 1, 2, 3);
        run.dueNode(1, Steps.CHANGING, 1, 0, 0, 0, 3, 1, 1, 0);
        run.pass(0, 1, Steps.VOTE);
        run.dueNode(1, Steps.CHANGING, 1, 0, 0, 0, 3, 2, 1, 0);
        run.dueNode(0, Steps.CHANGING, 1, 0, 0, 0, 3, 0, 1, 0);
        run.still(3).node(1, 5);
        run.still(2).node(1, 6);
        run.still(1).node(1, 7);
        Run crashed = run.again();
        crashed.crash(1);
        crashed.dueNode(1, Steps.CRASHED, 0, 0, 0, 0, 0, 0, 0, 0);
        crashed.recover(1, 1);
        crashed.dueNode(1, Steps.RECOVERING, 0, 0, 0, 0, 0, 0, 0, 0);
        run.pass(2, 1, Steps.VOTE);
        run.dueNode(1, Steps.NORMAL, 1, 1, 0, 0, 0, 0, 0, 0);
        run.pass(1, 0, Steps.BEGIN);
        run.dueNode(0, Steps.NORMAL, 1, 1, 0, 0, 0, 0, 0, 0);
        run.timeout(0);
        run.dueNode(0, Steps.CHANGING, 2, 1, 0, 0, 0, 0, 0, 0);
    }

    private static void talesOnlyWhenRecovering() {
        Sentence.is("Promise 10", "8 TALES (0 unless RECOVERING).");
        Run run = new Run(5);
        run.ask(4, 3, 0, 1);
        run.still(2).node(4, 8);
        Run crashed = run.again();
        crashed.crash(4);
        crashed.still(0).node(4, 8);
        run.pass(4, 2, Steps.ASK);
        run.pass(2, 4, Steps.TELL);
        run.dueNode(4, Steps.NORMAL, 0, 0, 0, 0, 0, 0, 0, 0);
        run.timeout(4);
        run.dueNode(4, Steps.CHANGING, 1, 0, 0, 0, 0, 0, 0, 0);
    }

    private static void nodeBad() {
        Sentence.is("Promise 10", "BAD.");
        for (int n : new int[] {3, 5}) {
            Run run = new Run(n);
            run.set(0, 1);
            for (int none : noNodes(n)) {
                run.still(Steps.BAD).node(none, 0);
                run.still(Steps.BAD).node(none, 8);
            }
            for (int none : new int[] {-1, 9, MIN, MAX}) {
                run.still(Steps.BAD).node(0, none);
                run.still(Steps.BAD).node(n - 1, none);
            }
            run.still(0).node(n - 1, 8);
            run.still(1).node(0, 3);
        }
    }

    // ---- promise 11

    private static void ofAnEntry() {
        Sentence.is("Promise 11", "Of ENTRY i (from 1) of a NODE's LOG: 0 CLIENT, 1 NUMBER, 2 KIND, 3 a, 4 b, 5 v.");
        Run run = new Run(3);
        int[][] entries = {{3, 999999, 2, 6, 7, -12}, {1, 17, 1, 5, 4, MAX}, {0, 1, 0, 1, 2, MIN}};
        for (int[] e : entries) {
            run.request(0, e[0], e[1], e[2], e[3], e[4], e[5]);
        }
        run.pass(0, 2, Steps.PREPARE);
        for (int i = 1; i <= 3; i++) {
            for (int what = 0; what <= 5; what++) {
                run.still(entries[i - 1][what]).entry(0, i, what);
                run.still(entries[i - 1][what]).entry(2, i, what);
            }
        }
    }

    private static void entryBad() {
        Sentence.is("Promise 11", "BAD: the least int.");
        Run run = new Run(3);
        run.still(MIN).entry(0, 1, 0);
        run.set(0, 1);
        run.set(0, 2);
        run.deliver(0);
        for (int none : new int[] {0, -1, 3, 16, 17, MIN, MAX}) {
            run.still(MIN).entry(0, none, 0);
            run.still(MIN).entry(0, none, 5);
        }
        for (int none : new int[] {-1, 6, MIN, MAX}) {
            run.still(MIN).entry(0, 1, none);
            run.still(MIN).entry(0, 2, none);
        }
        for (int none : noNodes(3)) {
            run.still(MIN).entry(none, 1, 0);
        }
        run.still(1).entry(1, 1, 5);
        run.still(MIN).entry(1, 2, 5);
        run.still(MIN).entry(2, 1, 5);
        run.crash(0);
        run.still(MIN).entry(0, 1, 0);
    }

    // ---- promise 12

    private static void ofARegister() {
        Sentence.is("Promise 12", "Register r of a NODE.");
        Run run = new Run(5);
        for (int r = 0; r < 8; r++) {
            run.request(0, 0, r + 1, 0, r, 0, 100 + r);
        }
        run.spread(0, 1, 2);
        for (int r = 0; r < 8; r++) {
            run.still(100 + r).register(0, r);
            run.still(0).register(1, r);
            run.still(0).register(4, r);
        }
    }

    private static void registerBad() {
        Sentence.is("Promise 12", "BAD: the least int.");
        for (int n : new int[] {3, 5}) {
            Run run = new Run(n);
            run.set(0, 5);
            run.spread(0, 1);
            for (int none : new int[] {-1, 8, MIN, MAX}) {
                run.still(MIN).register(0, none);
                run.still(MIN).register(n - 1, none);
            }
            for (int none : noNodes(n)) {
                run.still(MIN).register(none, 0);
                run.still(MIN).register(none, 7);
            }
            run.still(0).register(n - 1, 7);
        }
    }

    // ---- promise 13

    private static void knownOfAnother() {
        Sentence.is("Promise 13", "How many ENTRIES a FIRST that is NORMAL knows another NODE to have (in its VIEW).");
        Run run = new Run(3);
        run.still(0).known(0, 1);
        run.set(0, 1);
        run.set(0, 2);
        run.spread(0, 1);
        run.still(2).known(0, 1);
        run.still(0).known(0, 2);
        run.pass(0, 2, Steps.PREPARE);
        run.still(0).known(0, 2);
        run.pass(2, 0, Steps.OK);
        run.still(2).known(0, 2);
        run.lead(3, 0, 2);
        run.still(0).known(0, 1);
        run.still(0).known(0, 2);
        run.pass(0, 2, Steps.BEGIN);
        run.pass(2, 0, Steps.OK);
        run.still(0).known(0, 1);
        run.still(2).known(0, 2);

        Run full = new Run(3);
        for (int v = 1; v <= 16; v++) {
            full.set(0, v);
        }
        full.spread(0, 2);
        full.still(16).known(0, 2);
    }

    /** A NODE is not another one than itself, so that is BAD, too. */
    private static void knownBadAndState() {
        Sentence.is("Promise 13", "BAD; STATE: node is no such one.");
        for (int n : new int[] {3, 5}) {
            Run run = new Run(n);
            for (int none : noNodes(n)) {
                run.still(Steps.BAD).known(none, 0);
                run.still(Steps.BAD).known(0, none);
                run.still(Steps.BAD).known(1, none);
                run.still(Steps.BAD).known(none, none);
            }
            run.still(Steps.BAD).known(0, 0);
            run.still(Steps.BAD).known(1, 1);
            run.still(0).known(0, n - 1);
            run.still(Steps.STATE).known(1, 0);
            run.still(Steps.STATE).known(n - 1, 0);
        }
        Run run = new Run(3);
        run.timeout(1);
        run.still(Steps.STATE).known(1, 0);
        run.lead(1, 1, 0);
        run.still(0).known(1, 0);
        run.pass(1, 0, Steps.BEGIN);
        run.still(Steps.STATE).known(0, 1);
        run.crash(1);
        run.still(Steps.STATE).known(1, 0);
        run.recover(1, 0);
        run.still(Steps.STATE).known(1, 0);
        Run zero = new Run(3);
        zero.timeout(0);
        zero.still(Steps.STATE).known(0, 1);
        zero.crash(0);
        zero.still(Steps.STATE).known(0, 1);
        zero.recover(0, 0);
        zero.still(Steps.STATE).known(0, 1);
    }

    // ---- promise 14

    private static void ofALetter() {
        Sentence.is("Promise 14", "Of a LETTER: 0 from, 1 to, 2 SORT, 3 VIEW, 4 how many ENTRIES its LOG has, 5 SURE,"
            + " 6 COUNT (4 to 6: 0 where it has none), 7 whether it was DROPPED (1, 0).");
        Run run = new Run(3);
        run.set(0, 1);
        run.spread(0, 1);
        run.set(0, 2);
        run.lead(4, 0, 1);
        run.pass(1, 0, Steps.BEGIN);
        run.lead(5, 0, 2);
        run.ask(1, 9, 2);
        int[][] want = {{0, 1, Steps.PREPARE, 0, 2, 1, 0}, {0, 1, Steps.OK, 4, 0, 0, 2}, {2, 0, Steps.CHANGE, 5, 0, 0, 0},
            {0, 2, Steps.VOTE, 5, 2, 1, 4}, {2, 1, Steps.BEGIN, 5, 2, 1, 0}, {1, 2, Steps.ASK, 0, 0, 0, 9},
            {2, 1, Steps.TELL, 5, 2, 1, 9}};
        for (int[] each : want) {
            int letter = run.letterOf(each[0], each[1], each[2]);
            for (int what = 0; what <= 6; what++) {
                run.still(each[what]).letter(letter, what);
            }
            run.still(0).letter(letter, 7);
            run.drop(letter);
            run.still(1).letter(letter, 7);
            run.still(each[2]).letter(letter, 2);
        }
    }

    private static void letterBad() {
        Sentence.is("Promise 14", "BAD.");
        Run run = new Run(3);
        run.still(Steps.BAD).letter(0, 0);
        run.set(0, 1);
        for (int none : new int[] {-1, 2, 239, 240, MIN, MAX}) {
            run.still(Steps.BAD).letter(none, 0);
            run.still(Steps.BAD).letter(none, 7);
        }
        for (int none : new int[] {-1, 8, MIN, MAX}) {
            run.still(Steps.BAD).letter(0, none);
            run.still(Steps.BAD).letter(1, none);
        }
        run.still(0).letter(1, 7);
        run.drop(1);
        run.still(Steps.BAD).letter(1, 8);
        run.still(0).letter(1, 0);
    }

    // ---- promise 15

    private static void countLetters() {
        Sentence.is("Promise 15", "How many: 0 LETTERS,");
        Run run = new Run(5);
        run.still(0).count(0);
        run.resend(1);
        run.still(1).count(0);
        run.resend(0);
        run.still(5).count(0);
        run.drop(0);
        run.still(5).count(0);
    }

    private static void countDropped() {
        Sentence.is("Promise 15", "1 of these DROPPED,");
        Run run = new Run(3);
        run.resend(0);
        run.still(0).count(1);
        run.drop(1);
        run.still(1).count(1);
        run.drop(1);
        run.still(1).count(1);
        run.drop(0);
        run.still(2).count(1);
        run.drop(2);
        run.still(2).count(1);
    }

    private static void countLost() {
        Sentence.is("Promise 15", "2 lost when THE POOL was full,");
        Run run = new Run(5);
        for (int letters = 0; letters < 236; letters += 4) {
            run.resend(0);
        }
        run.resend(1);
        run.still(237).count(0);
        run.still(0).count(2);
        run.resend(0);
        run.still(240).count(0);
        run.still(1).count(2);
        run.resend(0);
        run.still(5).count(2);
        run.drop(3);
        run.resend(2);
        run.still(6).count(2);
        run.still(1).count(1);
    }

    private static void countLines() {
        Sentence.is("Promise 15", "3 lines that are cut,");
        for (int n : new int[] {3, 5}) {
            Run run = new Run(n);
            int lines = 0;
            for (int i = n - 1; i >= 0; i--) {
                for (int j = 0; j < i; j++) {
                    run.still(lines).count(3);
                    run.cut(i, j, true);
                    run.cut(j, i, true);
                    lines++;
                }
            }
            run.still(lines).count(3);
            Due.due("lines", lines, n * (n - 1) / 2);
            run.cut(0, 1, false);
            run.still(lines - 1).count(3);
            run.cut(1, 0, false);
            run.still(lines - 1).count(3);
        }
    }

    private static void countNormal() {
        Sentence.is("Promise 15", "4 NODES that are NORMAL.");
        Run run = new Run(5);
        run.still(5).count(4);
        run.timeout(4);
        run.still(4).count(4);
        run.crash(0);
        run.still(3).count(4);
        run.recover(0, 1);
        run.still(3).count(4);
        run.timeout(1);
        run.crash(2);
        run.crash(3);
        run.still(0).count(4);
        Run back = new Run(3);
        back.timeout(1);
        back.still(2).count(4);
        back.lead(1, 1, 2);
        back.still(2).count(4);
        back.pass(1, 2, Steps.BEGIN);
        back.still(3).count(4);
    }

    private static void countBad() {
        Sentence.is("Promise 15", "BAD.");
        Run run = new Run(3);
        run.set(0, 1);
        for (int none : new int[] {-1, 5, MIN, MAX}) {
            run.still(Steps.BAD).count(none);
        }
        run.still(2).count(0);
        run.still(3).count(4);
    }

    // ---- promise 16

    /**
     * Node a leads VIEW a, and is sure of ENTRIES of values as; those who had them with it forget, so that
     * node b leads VIEW b with none, takes ENTRIES of values bs, and is sure of as many as told.
     */
    private static Run split(int n, int a, int b, int[] as, int[] bs, int sureOfB) {
        Run run = new Run(n);
        int[] forgetters = new int[run.f], others = new int[n - run.f];
        int f = 0, o = 0;
        for (int node = 0; node < n; node++) {
            if (node != a && node != b && f < run.f) {
                forgetters[f++] = node;
            } else {
                others[o++] = node;
            }
        }
        if (a > 0) {
            run.lead(a, with(a, forgetters));
        }
        int[][] tells = new int[run.f][];
        for (int i = 0; i < run.f; i++) {
            tells[i] = run.ask(forgetters[i], 7, others);
        }
        takeAll(run, a, as, as.length, forgetters);
        for (int i = 0; i < run.f; i++) {
            run.forget(forgetters[i], 7, tells[i]);
        }
        run.lead(b, with(b, forgetters));
        takeAll(run, b, bs, sureOfB, forgetters);
        return run;
    }

    private static int[] with(int first, int[] others) {
        int[] all = new int[others.length + 1];
        all[0] = first;
        System.arraycopy(others, 0, all, 1, others.length);
        return all;
    }

    private static void takeAll(Run run, int first, int[] values, int sure, int[] others) {
        for (int i = 1; i <= values.length; i++) {
            run.set(first, values[i - 1]);
            if (i == sure) {
                for (int other : others) {
                    run.pass(first, other, Steps.PREPARE);
                    run.pass(other, first, Steps.OK);
                }
            }
        }
        run.dueNode(first, Steps.NORMAL, first, first, values.length, sure);
    }

    private static void unlikePairs() {
        Sentence.is("Promise 16", "The first two NODES i, j (i below j, by i, then j), of which the ENTRIES up to the lesser SURE"
            + " are not the same: 10 i + j;");
        int[] one = {1}, two = {2};
        for (int n : new int[] {3, 5}) {
            for (int a = 0; a < n; a++) {
                for (int b = a + 1; b < n; b++) {
                    split(n, a, b, one, two, 1).still(10 * a + b).unlike();
                }
            }
        }
        // node 0 comes to have node 2's: then 0 and 1 are ahead of 1 and 2
        Run run = split(3, 1, 2, one, two, 1);
        run.spread(2, 0);
        run.dueNode(0, Steps.NORMAL, 2, 2, 1, 1);
        run.still(1).unlike();
        run.crash(1);
        run.still(-1).unlike();
        // nodes 3 and 4 have another one than node 0: 0 and 3 are ahead of 0 and 4
        Run five = split(5, 0, 3, one, two, 1);
        five.spread(3, 4);
        five.dueNode(4, Steps.NORMAL, 3, 3, 1, 1);
        five.still(3).unlike();
        five.crash(3);
        five.still(4).unlike();
        five.crash(0);
        five.still(-1).unlike();
    }

    private static void unlikeUpToTheLesserSure() {
        Sentence.is("Promise 16", "the ENTRIES up to the lesser SURE are not the same");
        int[] base = {1, 2, 3};
        split(3, 1, 2, base, new int[] {9}, 0).still(-1).unlike();
        split(3, 1, 2, base, new int[] {9}, 1).still(12).unlike();
        split(3, 1, 2, base, new int[] {1}, 1).still(-1).unlike();
        split(3, 1, 2, base, new int[] {1, 9}, 1).still(-1).unlike();
        split(3, 1, 2, base, new int[] {1, 9}, 2).still(12).unlike();
        split(3, 1, 2, base, new int[] {1, 2, 9}, 2).still(-1).unlike();
        split(3, 1, 2, base, new int[] {1, 2, 9}, 3).still(12).unlike();
        split(3, 1, 2, base, new int[] {1, 2, 3, 9}, 4).still(-1).unlike();
        split(3, 1, 2, new int[] {1}, new int[] {1, 9, 9}, 3).still(-1).unlike();
        split(3, 1, 2, new int[] {9}, new int[] {1, 9, 9}, 3).still(12).unlike();
    }

    private static void unlikeByEachField() {
        Sentence.is("Promise 16", "are not the same");
        int[] base = {0, 1, 0, 0, 0, 5};
        for (int field = -1; field < 6; field++) {
            int[] e = base.clone();
            if (field >= 0) {
                e[field]++;
            }
            Run run = split(3, 0, 1, new int[] {5}, new int[0], 0);
            run.request(1, e[0], e[1], e[2], e[3], e[4], e[5]);
            run.pass(1, 2, Steps.PREPARE);
            run.pass(2, 1, Steps.OK);
            run.still(field < 0 ? -1 : 1).unlike();
        }
    }

    private static void unlikeNone() {
        Sentence.is("Promise 16", "NONE.");
        Run run = new Run(3);
        run.still(ViewStamps.NONE).unlike();
        run.set(0, 1);
        run.set(0, 2);
        run.spread(0, 1);
        run.still(-1).unlike();
        run.spread(0, 1);
        run.spread(0, 2);
        run.dueNode(2, Steps.NORMAL, 0, 0, 2, 2);
        run.still(-1).unlike();
        run.crash(0);
        run.still(-1).unlike();
    }

    // ---- promise 17

    /** As promise 17 tells it, by the other calls, each kind of them on an object of its own. */
    private static long sum(Run run) {
        Run nodes = run.again(), letters = run.again();
        long h = 17;
        for (int node = 0; node < run.size; node++) {
            for (int what = 0; what <= 8; what++) {
                h = 31 * h + nodes.node(node, what);
            }
            int entries = nodes.node(node, 3);
            for (int i = 1; i <= entries; i++) {
                for (int what = 0; what <= 5; what++) {
                    h = 31 * h + nodes.entry(node, i, what);
                }
            }
            for (int r = 0; r <= 7; r++) {
                h = 31 * h + nodes.register(node, r);
            }
        }
        int end = letters.count(0);
        for (int i = 0; i < end; i++) {
            for (int what = 0; what <= 7; what++) {
                h = 31 * h + letters.letter(i, what);
            }
        }
        return h;
    }

    private static void digestOfANewObject() {
        Sentence.is("Promise 17", "h is 17; h becomes 31 h and each of:");
        for (int n : new int[] {3, 5}) {
            long h = 17;
            for (int i = 0; i < n * (9 + 8); i++) {
                h *= 31;
            }
            new Run(n).still(h).digest();
        }
        Run run = new Run(3);
        run.crash(0);
        long h = 17;
        for (int i = 0; i < 3 * (9 + 8); i++) {
            h = 31 * h + (i == 0 ? Steps.CRASHED : 0);
        }
        run.still(h).digest();
    }

    private static void digestOfAll() {
        Sentence.is("Promise 17", "of each NODE node() 0 to 8, of its ENTRIES entry() 0 to 5, its registers; of each LETTER letter() 0 to 7;");
        Run run = new Run(3);
        run.request(0, 1, 2, 0, 3, 4, -5);
        run.still(sum(run)).digest();
        run.spread(0, 1);
        run.request(0, 3, 1000000, 1, 7, 0, MAX);
        run.spread(0, 1);
        run.still(sum(run)).digest();
        run.lead(1, 0, 1);
        run.drop(1);
        run.still(sum(run)).digest();
        run.ask(2, 6, 1);
        run.timeout(0);
        run.pass(0, 1, Steps.CHANGE);
        run.still(sum(run)).digest();
        long before = run.digest();
        run.cut(0, 1, true);
        run.still(before).digest();
    }

    private static void digestWraps() {
        Sentence.is("Promise 17", "as longs that wrap.");
        Run run = new Run(3);
        for (int v : new int[] {MIN, -1, MAX}) {
            run.set(0, v);
            run.spread(0, 2);
            run.spread(0, 2);
            run.still(sum(run)).digest();
        }
        Due.due("register", run.register(2, 0), MAX);
    }
}
