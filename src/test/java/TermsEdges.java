/** The document's terms: nodes, entries, registers, refusals. */
final class TermsEdges {
    private static final String TERMS = "Terms";
    private static final int MIN = Integer.MIN_VALUE, MAX = Integer.MAX_VALUE;
    private static final int SET = 0, ADD = 1, MOVE = 2;

    private TermsEdges() {
    }

    static void test() {
        for (int n : new int[] {3, 5}) {
            nodes(n);
            enough(n);
            atFirst(n);
            logOfSixteen(n);
            sure(n);
            firstOfAView(n);
        }
        status();
        lastView();
        client();
        number();
        kind();
        registerNames();
        value();
        registersAtFirst();
        registersUpToSure();
        setOfARegister();
        addThatWraps();
        moveAtTheEdge();
        moveThatWraps();
        moveToItself();
        refusals();
        actsAndAsked();
    }

    private static void nodes(int n) {
        Sentence.is(TERMS, "N - 1 (N 3 or 5, as told to the constructor;");
        Run run = new Run(n);
        run.set(0, 1);
        for (int node : new int[] {0, 1, n - 1}) {
            Due.due("status of node " + node, run.node(node, 0), Steps.NORMAL);
            Due.due("timeout(" + node + ")", run.again().timeout(node), 1);
        }
        for (int none : new int[] {-1, n, MIN, MAX}) {
            run.still(Steps.BAD).node(none, 0);
            run.still(Steps.BAD).timeout(none);
        }
    }

    private static void enough(int n) {
        Sentence.is(TERMS, "F is 1 or 2).");
        Run run = new Run(n);
        run.set(0, 1);
        for (int other = 1; other <= run.f; other++) {
            run.pass(0, other, Steps.PREPARE);
            Due.due("sure by " + (other - 1) + " others", run.node(0, 4), 0);
            run.pass(other, 0, Steps.OK);
        }
        Due.due("sure by F others", run.node(0, 4), 1);
    }

    private static void atFirst(int n) {
        Sentence.is(TERMS, "all NORMAL, 0, empty at first.");
        Run run = new Run(n);
        for (int node = 0; node < n; node++) {
            run.dueNode(node, Steps.NORMAL, 0, 0, 0, 0, 0, 0, 0, 0);
            run.still(Steps.LEAST).entry(node, 1, 0);
        }
        Due.due("letters", run.count(0), 0);
    }

    private static void logOfSixteen(int n) {
        Sentence.is(TERMS, "a LOG of up to 16 ENTRIES, numbered from 1,");
        Run run = new Run(n);
        for (int i = 1; i <= 16; i++) {
            Due.due("entry " + i, run.set(0, 100 + i), i);
        }
        run.still(Steps.FULL).request(0, 0, 17, SET, 0, 0, 117);
        run.still(Steps.LEAST).entry(0, 0, 5);
        run.still(Steps.LEAST).entry(0, 17, 5);
        Due.due("the first entry", run.entry(0, 1, 5), 101);
        Due.due("the 15th entry", run.entry(0, 15, 5), 115);
        Due.due("the 16th entry", run.entry(0, 16, 5), 116);
        Due.due("a full log fits in a letter", run.letter(16 * (n - 1) - 1, 4), 16);
        Due.due("and is taken from it", run.deliver(16 * (n - 1) - 1), 1);
        Due.due("whole", run.node(n - 1, 3), 16);
        Due.due("to the last entry", run.entry(n - 1, 16, 5), 116);
    }

    private static void sure(int n) {
        Sentence.is(TERMS, "SURE (how many ENTRIES from the first on stand for good),");
        Run run = new Run(n);
        for (int i = 1; i <= 16; i++) {
            run.set(0, i);
            if (i == 1 || i >= 15) {
                Due.due("sure before", run.node(0, 4), i == 1 ? 0 : i == 15 ? 1 : 15);
                run.spread(0, n == 3 ? new int[] {1} : new int[] {1, 2});
                Due.due("sure", run.node(0, 4), i);
            }
        }
    }

    /** From VIEW N on the numbers of the NODES come round again. */
    private static void firstOfAView(int n) {
        Sentence.is(TERMS, "The FIRST of a VIEW v is NODE v mod N.");
        for (int view = 0; view <= n + 1; view++) {
            Run run = new Run(n);
            int first = view % n;
            if (view > 0) {
                run.lead(view, n == 3 ? new int[] {first, (first + 1) % n}
                    : new int[] {first, (first + 1) % n, (first + 2) % n});
                run.pass(first, (first + 1) % n, Steps.BEGIN);
                run.pass(first, (first + 2) % n, Steps.BEGIN);
            }
            for (int step = 1; step <= 2; step++) {
                Due.due("view of a follower", run.node((first + step) % n, 1), view);
                run.still(Steps.STATE).request((first + step) % n, 0, 1, SET, 0, 0, 0);
            }
            Due.due("request at the first of view " + view, run.set(first, 1), 1);
            int at = run.count(0);
            run.resend((first + 1) % n);
            run.duePosted(at, new int[] {(first + 1) % n, first, Steps.OK, view});
        }
    }

    private static void status() {
        Sentence.is(TERMS, "A NODE has a STATUS (0 NORMAL, 1 CHANGING, 2 RECOVERING, 3 CRASHED), a VIEW,");
        Run run = new Run(3);
        run.dueNode(2, 0, 0);
        run.timeout(2);
        run.dueNode(2, 1, 1);
        run.crash(2);
        run.dueNode(2, 3, 0);
        run.recover(2, 5);
        run.dueNode(2, 2, 0);
    }

    private static void lastView() {
        Sentence.is(TERMS, "its LAST VIEW (in which it was NORMAL last),");
        Run run = new Run(3);
        run.timeout(1);
        run.dueNode(1, Steps.CHANGING, 1, 0);
        run.lead(1, 1, 2);
        run.dueNode(1, Steps.NORMAL, 1, 1);
        run.dueNode(2, Steps.CHANGING, 1, 0);
        run.pass(1, 2, Steps.BEGIN);
        run.dueNode(2, Steps.NORMAL, 1, 1);
        run.timeout(2);
        run.timeout(2);
        run.dueNode(2, Steps.CHANGING, 3, 1);
    }

    // ---- an entry

    private static void client() {
        Sentence.is(TERMS, "An ENTRY: a CLIENT (0 .. 3)");
        Run run = new Run(3);
        for (int client : new int[] {-1, 4, MIN, MAX}) {
            run.still(Steps.BAD).request(0, client, 1, SET, 0, 0, 0);
        }
        for (int client = 0; client <= 3; client++) {
            Due.due("client " + client, run.request(0, client, 1, SET, 0, 0, 0), client + 1);
            Due.due("client of it", run.entry(0, client + 1, 0), client);
        }
    }

    private static void number() {
        Sentence.is(TERMS, "its NUMBER (1 .. 1000000)");
        Run run = new Run(3);
        for (int number : new int[] {0, -1, 1000001, MIN, MAX}) {
            run.still(Steps.BAD).request(0, 0, number, SET, 0, 0, 0);
        }
        int entries = 0;
        for (int number : new int[] {1, 2, 999999, 1000000}) {
            entries++;
            Due.due("number " + number, run.request(0, 0, number, SET, 0, 0, 0), entries);
            Due.due("number of it", run.entry(0, entries, 1), number);
        }
        run.still(Steps.BAD).request(0, 0, 1000001, SET, 0, 0, 0);
    }

    private static void kind() {
        Sentence.is(TERMS, "a KIND (0 SET, 1 ADD, 2 MOVE)");
        Run run = new Run(3);
        for (int kind : new int[] {-1, 3, MIN, MAX}) {
            run.still(Steps.BAD).request(0, 0, 1, kind, 0, 0, 0);
        }
        for (int kind = 0; kind <= 2; kind++) {
            Due.due("kind " + kind, run.request(0, 0, kind + 1, kind, 0, 0, 0), kind + 1);
            Due.due("kind of it", run.entry(0, kind + 1, 2), kind);
        }
        Run one = new Run(3);
        stand(one, 0, 1, 2, 5);
        stand(one, 1, 1, 2, 5);
        stand(one, 2, 1, 2, 4);
        dueRegisters(one, 0, 6, 4, 0, 0, 0, 0, 0);
    }

    /** Both are looked at whatever the KIND, though SET and ADD use only one. */
    private static void registerNames() {
        Sentence.is(TERMS, "registers a, b (0 .. 7)");
        Run run = new Run(3);
        for (int kind = 0; kind <= 2; kind++) {
            for (int none : new int[] {-1, 8, MIN, MAX}) {
                run.still(Steps.BAD).request(0, 0, 1, kind, none, 0, 0);
                run.still(Steps.BAD).request(0, 0, 1, kind, 0, none, 0);
            }
        }
        int entries = 0;
        for (int r : new int[] {0, 7}) {
            entries += 2;
            Due.due("a is " + r, run.request(0, 0, entries, MOVE, r, 3, 0), entries - 1);
            Due.due("b is " + r, run.request(0, 1, entries, MOVE, 4, r, 0), entries);
            Due.due("a of it", run.entry(0, entries - 1, 3), r);
            Due.due("b of it", run.entry(0, entries - 1, 4), 3);
            Due.due("a of it", run.entry(0, entries, 3), 4);
            Due.due("b of it", run.entry(0, entries, 4), r);
        }
    }

    private static void value() {
        Sentence.is(TERMS, "a value v (any int).");
        Run run = new Run(3);
        int entries = 0;
        for (int v : new int[] {MIN, MIN + 1, -1, 0, 1, MAX - 1, MAX}) {
            entries++;
            Due.due("value " + v, run.set(0, v), entries);
            Due.due("value of it", run.entry(0, entries, 5), v);
        }
    }

    // ---- registers

    /** Node 0 takes an ENTRY, and it stands. */
    private static void stand(Run run, int kind, int a, int b, int v) {
        int number = run.node(0, 3) + 1;
        Due.due("request", run.request(0, 0, number, kind, a, b, v), number);
        run.pass(0, 1, Steps.PREPARE);
        run.pass(1, 0, Steps.OK);
    }

    private static void dueRegisters(Run run, int... want) {
        for (int r = 0; r < 8; r++) {
            Due.due("register " + r, run.register(0, r), want[r]);
        }
    }

    private static void registersAtFirst() {
        Sentence.is(TERMS, "REGISTERS of a NODE: 8 ints, 0 at first,");
        Run run = new Run(5);
        for (int node = 0; node < 5; node++) {
            for (int r = 0; r < 8; r++) {
                Due.due("register(" + node + ", " + r + ")", run.register(node, r), 0);
            }
            run.still(Steps.LEAST).register(node, -1);
            run.still(Steps.LEAST).register(node, 8);
        }
    }

    private static void registersUpToSure() {
        Sentence.is(TERMS, "as its first SURE ENTRIES leave them, one behind the other:");
        Run run = new Run(3);
        run.set(0, 10);
        int one = run.letterOf(0, 1, Steps.PREPARE);
        run.set(0, 20);
        run.set(0, 30);
        Due.due("three entries, none sure", run.register(0, 0), 0);
        run.deliver(one);
        run.pass(1, 0, Steps.OK);
        Due.due("three entries, one sure", run.register(0, 0), 10);
        Due.due("none sure at the other", run.register(1, 0), 0);
        run.pass(0, 1, Steps.PREPARE);
        run.pass(1, 0, Steps.OK);
        Due.due("all sure", run.register(0, 0), 30);
        Due.due("none told to the other as sure", run.register(1, 0), 0);
        run.spread(0, 1);
        Due.due("all sure at the other", run.register(1, 0), 30);
    }

    private static void setOfARegister() {
        Sentence.is(TERMS, "SET: a is v.");
        Run run = new Run(3);
        stand(run, SET, 0, 7, MAX);
        dueRegisters(run, MAX, 0, 0, 0, 0, 0, 0, 0);
        stand(run, SET, 7, 0, MIN);
        dueRegisters(run, MAX, 0, 0, 0, 0, 0, 0, MIN);
        stand(run, SET, 0, 7, -1);
        dueRegisters(run, -1, 0, 0, 0, 0, 0, 0, MIN);
        stand(run, SET, 0, 0, 0);
        dueRegisters(run, 0, 0, 0, 0, 0, 0, 0, MIN);
    }

    private static void addThatWraps() {
        Sentence.is(TERMS, "ADD: a is more by v (as ints that wrap).");
        int[][] cases = {{MAX - 1, 1, MAX}, {MAX, 1, MIN}, {MAX, 2, MIN + 1}, {MIN + 1, -1, MIN}, {MIN, -1, MAX},
            {MIN, -2, MAX - 1}, {MAX, MAX, -2}, {MIN, MIN, 0}, {-1, MIN, MAX}, {0, MIN, MIN}, {MAX, 0, MAX}, {5, -7, -2}};
        for (int[] each : cases) {
            Run run = new Run(3);
            stand(run, SET, 7, 0, each[0]);
            stand(run, ADD, 7, 0, each[1]);
            dueRegisters(run, 0, 0, 0, 0, 0, 0, 0, each[2]);
        }
    }

    /** Registers 2 and 5 hold these, then v is moved from 2 to 5. */
    private static void dueMoved(int from, int to, int v, int fromAfter, int toAfter) {
        Run run = new Run(3);
        stand(run, SET, 2, 0, from);
        stand(run, SET, 5, 0, to);
        stand(run, MOVE, 2, 5, v);
        dueRegisters(run, 0, 0, fromAfter, 0, 0, toAfter, 0, 0);
    }

    private static void moveAtTheEdge() {
        Sentence.is(TERMS, "MOVE: if a is v or more: a is less by v, b more");
        dueMoved(6, 1, 7, 6, 1);
        dueMoved(7, 1, 7, 0, 8);
        dueMoved(8, 1, 7, 1, 8);
        dueMoved(-1, 1, 0, -1, 1);
        dueMoved(0, 1, 0, 0, 1);
        dueMoved(-8, 1, -7, -8, 1);
        dueMoved(-7, 1, -7, 0, -6);
        dueMoved(-6, 1, -7, 1, -6);
        dueMoved(MAX - 1, 0, MAX, MAX - 1, 0);
        dueMoved(MAX, 0, MAX, 0, MAX);
        dueMoved(MIN, 0, MIN + 1, MIN, 0);
        dueMoved(MIN, 0, MIN, 0, MIN);
        dueMoved(MIN, 0, MAX, MIN, 0);
    }

    /** That a is v or more is asked of the ints themselves, not of a wrapped difference. */
    private static void moveThatWraps() {
        Sentence.is(TERMS, "(as ints that wrap; a may be b).");
        dueMoved(MAX, 0, -1, MIN, -1);
        dueMoved(MAX, 0, MIN, -1, MIN);
        dueMoved(0, 0, MIN, MIN, MIN);
        dueMoved(-1, 0, MIN, MAX, MIN);
        dueMoved(1, MAX, 1, 0, MIN);
        dueMoved(1, MAX - 1, 1, 0, MAX);
        dueMoved(0, MIN, -1, 1, MAX);
        dueMoved(MAX, MAX, MAX, 0, -2);
    }

    private static void moveToItself() {
        Sentence.is(TERMS, "a may be b");
        int[][] cases = {{5, 4}, {5, 5}, {5, 6}, {5, -1}, {MAX, -1}, {0, MIN}, {MIN, MIN}, {MIN, MAX}};
        for (int[] each : cases) {
            Run run = new Run(3);
            stand(run, SET, 7, 0, each[0]);
            stand(run, MOVE, 7, 7, each[1]);
            Due.due("sure", run.node(0, 4), 2);
            dueRegisters(run, 0, 0, 0, 0, 0, 0, 0, each[0]);
        }
    }

    // ---- refusals

    private static void refusals() {
        Sentence.is(TERMS, "Refusals, the first that fits: BAD -2 (a number not as told, no such NODE, LETTER),"
            + " STATE -3 (as told), FULL -4 (the LOG has 16). They change nothing.");
        Due.due("BAD", ViewStamps.BAD, -2);
        Due.due("STATE", ViewStamps.STATE, -3);
        Due.due("FULL", ViewStamps.FULL, -4);
        Due.due("NONE", ViewStamps.NONE, -1);
        Run run = new Run(3);
        for (int i = 1; i <= 16; i++) {
            run.set(0, i);
        }
        run.cut(0, 1, true);
        run.drop(0);
        run.crash(2);
        run.still(-4).request(0, 0, 17, SET, 0, 0, 0);
        run.still(0).request(0, 0, 16, SET, 0, 0, 0);
        run.still(-3).request(1, 0, 17, SET, 0, 0, 0);
        run.still(-2).request(1, 4, 17, SET, 0, 0, 0);
        run.still(-2).request(0, 4, 17, SET, 0, 0, 0);
        run.still(-2).deliver(0);
        run.still(-3).deliver(2);
        run.still(-2).deliver(32);
        run.still(-2).drop(0);
        run.still(-2).cut(0, 0, true);
        run.still(-3).timeout(2);
        run.still(-3).resend(2);
        run.still(-3).crash(2);
        run.still(-2).recover(2, -1);
        run.still(-2).recover(1, -1);
        run.still(-3).recover(1, 0);
        run.still(-2).known(1, 3);
        run.still(-3).known(1, 2);
    }

    private static void actsAndAsked() {
        Sentence.is(TERMS, "Ahead of the calls `request`, `deliver`, `drop`, `cut`, `timeout`, `resend`, `crash`,"
            + " `recover` the interface says: ---- acts.");
        Run run = new Run(3);
        long before = run.digest();
        Due.due("request", run.request(0, 0, 1, ADD, 3, 0, 9), 1);
        Due.due("deliver", run.deliver(0), 1);
        Due.due("cut", run.cut(0, 2, true), 0);
        Due.due("drop", run.drop(1), 1);
        Due.due("timeout", run.timeout(1), 1);
        Due.due("resend", run.resend(1), 2);
        Due.due("crash", run.crash(2), 0);
        Due.due("recover", run.recover(2, 1), 1);
        Due.dueTrue("acts change what is asked", run.digest() != before);

        Sentence.is(TERMS, "Ahead of the calls `node`, `entry`, `register`, `known`, `letter`, `count`, `unlike`,"
            + " `digest` the interface says: ---- asked.");
        run.still(1).node(1, 0);
        run.still(9).entry(0, 1, 5);
        run.still(0).register(0, 3);
        run.still(0).known(0, 1);
        run.still(2).letter(2, 2);
        run.still(1).count(3);
        run.still(-1).unlike();
        run.still(run.digest()).digest();
    }
}
