import java.util.Random;

/** Promises 1 to 9: a new object, and the acts. */
final class ActsEdges {
    private static final int MIN = Integer.MIN_VALUE, MAX = Integer.MAX_VALUE;

    private ActsEdges() {
    }

    static void test() {
        size();
        noLineIsCut();
        callsInAll();
        requestComesBehind();
        requestBad();
        requestState();
        requestKnownNumber();
        requestFull();
        delivered();
        neverToTheFirst();
        changeOfAVoter();
        voteAmongTheVotes();
        deliverBad();
        deliverState();
        dropped();
        dropBad();
        cutOrNot();
        cutBad();
        timeoutOfANode();
        timeoutBadAndState();
        timeoutFull();
        resendOfTheFirst();
        resendOfANormalNode();
        resendOfAChangingNode();
        resendOfARecoveringNode();
        resendCountsLostOnes();
        resendBadAndState();
        crashLosesAll();
        crashForgetsWhatItKnew();
        crashCountsEntries();
        crashBadAndState();
        recoverAsksAll();
        recoverNonce();
        recoverState();
    }

    private static int[] noNodes(int size) {
        return new int[] {-1, size, size == 3 ? 4 : 6, MIN, MAX};
    }

    // ---- promise 1

    private static void size() {
        Sentence.is("Promise 1", "N is 5, if n is 5, else 3.");
        for (int n : new int[] {5, 4, 6, 3, 2, 1, 0, -1, -3, -5, 15, MIN, MAX}) {
            ViewStamps x = new ViewStamps(n);
            int size = n == 5 ? 5 : 3;
            Due.due("normal nodes of " + n, x.count(4), size);
            Due.due("the last node of " + n, x.node(size - 1, 0), Steps.NORMAL);
            Due.due("one past it", x.node(size, 0), Steps.BAD);
            Due.due("one ahead of the first", x.node(-1, 0), Steps.BAD);
            Due.due("it posts to all others", x.resend(0), size - 1);
        }
    }

    private static void noLineIsCut() {
        Sentence.is("Promise 1", "No line is cut.");
        for (int n : new int[] {3, 5}) {
            Run run = new Run(n);
            Due.due("lines cut", run.count(3), 0);
            for (int i = 0; i < n; i++) {
                for (int j = 0; j < n; j++) {
                    if (i != j) {
                        run.still(0).cut(i, j, false);
                    }
                }
                Run each = run.again();
                each.timeout(i);
                for (int letter = 0; letter < n - 1; letter++) {
                    Due.due("a letter on each line", each.deliver(letter), 1);
                }
            }
        }
    }

    private static void callsInAll() {
        Sentence.is("What it is", "An object is used for at most 512 calls after it has been made;");
        ViewStamps x = new ViewStamps(3);
        for (int call = 1; call <= 509; call++) {
            x.resend(1);
        }
        Due.due("call 510", x.request(0, 0, 1, 0, 0, 0, 7), 1);
        Due.due("call 511", x.count(2), 271);
        Due.due("call 512", x.entry(0, 1, 5), 7);
    }

    // ---- promise 2

    private static void requestComesBehind() {
        Sentence.is("Promise 2", "A CLIENT asks a NODE for an ENTRY: it comes behind its LOG, PREPARE is posted to ALL: its number.");
        Run run = new Run(5);
        run.lead(2, 1, 2, 3);
        int at = run.count(0);
        Due.due("the first entry", run.request(2, 3, 1000000, 2, 7, 6, MIN), 1);
        run.duePosted(at, prepare(0, 1), prepare(1, 1), prepare(3, 1), prepare(4, 1));
        Due.due("the second entry", run.request(2, 0, 1, 0, 0, 1, MAX), 2);
        run.duePosted(at + 4, prepare(0, 2), prepare(1, 2), prepare(3, 2), prepare(4, 2));
        int[][] want = {{3, 1000000, 2, 7, 6, MIN}, {0, 1, 0, 0, 1, MAX}};
        for (int i = 1; i <= 2; i++) {
            for (int what = 0; what <= 5; what++) {
                Due.due("entry(2, " + i + ", " + what + ")", run.entry(2, i, what), want[i - 1][what]);
            }
        }
        run.dueNode(2, Steps.NORMAL, 2, 2, 2, 0);
    }

    private static int[] prepare(int to, int entries) {
        return new int[] {2, to, Steps.PREPARE, 2, entries, 0, 0, 0};
    }

    private static void requestBad() {
        Sentence.is("Promise 2", "BAD; STATE: the NODE is not NORMAL, or not the FIRST of its VIEW;");
        for (int n : new int[] {3, 5}) {
            Run run = new Run(n);
            run.set(0, 1);
            for (int node : noNodes(n)) {
                run.still(Steps.BAD).request(node, 0, 2, 0, 0, 0, 0);
            }
            Due.due("the first node", run.again().request(0, 0, 2, 0, 0, 0, 0), 2);
            run.still(Steps.STATE).request(n - 1, 0, 2, 0, 0, 0, 0);
            // what is BAD is looked at ahead of STATE
            run.still(Steps.BAD).request(n - 1, -1, 2, 0, 0, 0, 0);
            run.still(Steps.BAD).request(n - 1, 0, 0, 0, 0, 0, 0);
            run.still(Steps.BAD).request(n - 1, 0, 2, 3, 0, 0, 0);
            run.still(Steps.BAD).request(n - 1, 0, 2, 0, 8, 0, 0);
            run.still(Steps.BAD).request(n - 1, 0, 2, 0, 0, 8, 0);
        }
    }

    private static void requestState() {
        Sentence.is("Promise 2", "STATE: the NODE is not NORMAL, or not the FIRST of its VIEW;");
        Run run = new Run(3);
        run.still(Steps.STATE).request(1, 0, 1, 0, 0, 0, 0);
        run.still(Steps.STATE).request(2, 0, 1, 0, 0, 0, 0);
        run.timeout(1);
        run.still(Steps.STATE).request(1, 0, 1, 0, 0, 0, 0);
        run.timeout(0);
        run.still(Steps.STATE).request(0, 0, 1, 0, 0, 0, 0);
        run.lead(1, 1, 0);
        Due.due("the first of view 1", run.again().set(1, 1), 1);
        run.pass(1, 0, Steps.BEGIN);
        run.dueNode(0, Steps.NORMAL, 1);
        run.still(Steps.STATE).request(0, 0, 1, 0, 0, 0, 0);
        run.crash(1);
        run.still(Steps.STATE).request(1, 0, 1, 0, 0, 0, 0);
        run.recover(1, 1);
        run.still(Steps.STATE).request(1, 0, 1, 0, 0, 0, 0);
        Run down = new Run(3);
        down.crash(0);
        down.still(Steps.STATE).request(0, 0, 1, 0, 0, 0, 0);
        down.recover(0, 1);
        down.still(Steps.STATE).request(0, 0, 1, 0, 0, 0, 0);
    }

    private static void requestKnownNumber() {
        Sentence.is("Promise 2", "0: its LOG has an ENTRY of that CLIENT with that NUMBER or a greater one;");
        Run run = new Run(3);
        run.request(0, 2, 10, 0, 0, 0, 1);
        run.request(0, 1, 500, 0, 0, 0, 1);
        run.still(0).request(0, 2, 10, 0, 0, 0, 1);
        run.still(0).request(0, 2, 10, 2, 3, 4, 5);
        run.still(0).request(0, 2, 9, 0, 0, 0, 1);
        run.still(0).request(0, 2, 1, 0, 0, 0, 1);
        run.still(0).request(0, 1, 500, 0, 0, 0, 1);
        Due.due("one more", run.again().request(0, 2, 11, 0, 0, 0, 1), 3);
        Due.due("of another client", run.again().request(0, 0, 10, 0, 0, 0, 1), 3);
        Due.due("of another client, a lesser one", run.again().request(0, 3, 1, 0, 0, 0, 1), 3);
        run.request(0, 2, 1000000, 0, 0, 0, 1);
        run.still(0).request(0, 2, 1000000, 0, 0, 0, 1);
        run.still(0).request(0, 2, 11, 0, 0, 0, 1);
        run.still(Steps.STATE).request(1, 2, 10, 0, 0, 0, 1);
        run.still(Steps.BAD).request(0, 2, 10, 3, 0, 0, 1);
        Run empty = new Run(3);
        Due.due("no entry at all", empty.request(0, 2, 1, 0, 0, 0, 1), 1);
    }

    private static void requestFull() {
        Sentence.is("Promise 2", "FULL.");
        Run run = new Run(3);
        for (int i = 1; i <= 15; i++) {
            run.set(0, i);
        }
        Due.due("the 16th", run.set(0, 16), 16);
        run.still(Steps.FULL).request(0, 0, 17, 0, 0, 0, 0);
        run.still(Steps.FULL).request(0, 1, 1, 0, 0, 0, 0);
        run.still(0).request(0, 0, 16, 0, 0, 0, 0);
        run.still(0).request(0, 0, 1, 0, 0, 0, 0);
        run.still(Steps.BAD).request(0, 0, 1000001, 0, 0, 0, 0);
        run.still(Steps.BAD).request(0, 4, 17, 0, 0, 0, 0);
        run.timeout(0);
        run.still(Steps.STATE).request(0, 0, 17, 0, 0, 0, 0);
    }

    // ---- promise 3

    private static void delivered() {
        Sentence.is("Promise 3", "A LETTER is DELIVERED: 1;");
        Run run = new Run(3);
        run.set(0, 1);
        Due.due("PREPARE", run.pass(0, 1, Steps.PREPARE), 1);
        Due.due("OK", run.pass(1, 0, Steps.OK), 1);
        Due.due("OK again", run.pass(1, 0, Steps.OK), 1);
        run.timeout(0);
        Due.due("CHANGE", run.pass(0, 1, Steps.CHANGE), 1);
        Due.due("CHANGE back", run.pass(1, 0, Steps.CHANGE), 1);
        Due.due("VOTE", run.pass(0, 1, Steps.VOTE), 1);
        Due.due("BEGIN", run.pass(1, 0, Steps.BEGIN), 1);
        Due.due("BEGIN again", run.pass(1, 0, Steps.BEGIN), 1);
        run.crash(2);
        run.recover(2, 4);
        Due.due("ASK", run.pass(2, 0, Steps.ASK), 1);
        Due.due("TELL", run.pass(0, 2, Steps.TELL), 1);
        Due.due("TELL again", run.pass(0, 2, Steps.TELL), 1);
    }

    /**
     * No PREPARE or BEGIN can reach the FIRST of its VIEW, as only the FIRST posts these, to others:
     * so what is held here is that none is ever posted so.
     */
    private static void neverToTheFirst() {
        Sentence.is("Promise 3", "0: it did nothing (so a PREPARE, BEGIN at the FIRST of its VIEW,");
        for (int seed = 0; seed < 100; seed++) {
            Random random = new Random(seed);
            Run run = new Run(seed % 2 == 0 ? 3 : 5);
            for (int call = 0; call < 100; call++) {
                int dice = random.nextInt(10), node = random.nextInt(run.size), newest = run.count(0) - 1;
                if (dice == 0) {
                    run.timeout(node);
                } else if (dice == 1) {
                    run.request(node, random.nextInt(4), call + 1, 1, 0, 0, 1);
                } else {
                    run.deliver(newest - random.nextInt(dice == 2 ? 40 : 6));
                }
            }
            Run read = run.again();
            int end = Math.min(120, read.count(0));
            for (int i = 0; i < end; i++) {
                int sort = read.letter(i, 2);
                if (sort == Steps.PREPARE || sort == Steps.BEGIN) {
                    Due.due("from the first", read.letter(i, 0), read.letter(i, 3) % read.size);
                }
            }
        }
    }

    private static void changeOfAVoter() {
        Sentence.is("Promise 3", "a CHANGE of one that is among the VOTERS,");
        Run run = new Run(5);
        run.timeout(4);
        run.resend(4);
        int one = 2, another = 6;
        run.dueLetter(one, 4, 2, Steps.CHANGE, 1);
        run.dueLetter(another, 4, 2, Steps.CHANGE, 1);
        Due.due("deliver", run.deliver(one), 1);
        run.still(0).deliver(one);
        run.still(0).deliver(another);
        Due.due("of another one", run.again().pass(4, 3, Steps.CHANGE), 1);
        run.timeout(4);
        Due.due("of the same, of a view above", run.pass(4, 2, Steps.CHANGE), 1);
        Due.due("voters", run.node(2, 5), 1);
        run.still(0).deliver(one);
    }

    private static void voteAmongTheVotes() {
        Sentence.is("Promise 3", "a VOTE of one that is among the VOTES, of that VIEW).");
        Run run = new Run(5);
        run.vote(1, 0, 2, 3);
        int one = run.letterOf(3, 1, Steps.VOTE);
        run.resend(3);
        int another = run.letterOf(3, 1, Steps.VOTE);
        Due.dueTrue("two votes of one node", one != another);
        Due.due("deliver", run.deliver(one), 1);
        run.still(0).deliver(one);
        run.still(0).deliver(another);
        Due.due("of another one", run.pass(2, 1, Steps.VOTE), 1);
        Due.due("votes", run.node(1, 6), 2);
        while (run.node(0, 1) < 6) {
            run.timeout(0);
        }
        run.pass(0, 3, Steps.CHANGE);
        run.pass(0, 2, Steps.CHANGE);
        run.pass(2, 3, Steps.CHANGE);
        Due.due("of the same, of a view above", run.pass(3, 1, Steps.VOTE), 1);
        run.dueNode(1, Steps.CHANGING, 6, 0, 0, 0, 0, 1, 0);
    }

    private static void deliverBad() {
        Sentence.is("Promise 3", "BAD: there is none, or it was DROPPED;");
        Run run = new Run(3);
        run.still(Steps.BAD).deliver(0);
        run.set(0, 1);
        for (int none : new int[] {-1, 2, 239, 240, MIN, MAX}) {
            run.still(Steps.BAD).deliver(none);
        }
        Due.due("the last one", run.again().deliver(1), 1);
        run.drop(1);
        run.still(Steps.BAD).deliver(1);
        Due.due("the one ahead of it", run.deliver(0), 1);
    }

    private static void deliverState() {
        Sentence.is("Promise 3", "STATE: the line between its NODES is cut.");
        Run run = new Run(3);
        run.set(0, 1);
        run.deliver(0);
        run.deliver(1);
        run.cut(1, 0, true);
        run.still(Steps.STATE).deliver(0);
        run.still(Steps.STATE).deliver(2);
        Due.due("another line", run.again().deliver(1), 1);
        Due.due("another line", run.again().deliver(3), 1);
        run.drop(0);
        run.still(Steps.BAD).deliver(0);
        run.timeout(0);
        run.still(Steps.STATE).deliver(2);
        run.cut(0, 1, false);
        run.still(0).deliver(2);
        run.still(Steps.BAD).deliver(0);
        Run five = new Run(5);
        five.cut(3, 4, true);
        five.resend(0);
        for (int letter = 0; letter < 4; letter++) {
            Due.due("lines of the others", five.deliver(letter), 1);
        }
    }

    // ---- promise 4

    private static void dropped() {
        Sentence.is("Promise 4", "A LETTER is DROPPED: 1.");
        Run run = new Run(3);
        run.set(0, 1);
        run.deliver(0);
        run.cut(0, 1, true);
        Due.due("on a line that is cut, delivered before", run.drop(0), 1);
        run.dueLetter(0, 0, 1, Steps.PREPARE, 0, 1, 0, 0, 1);
        run.dueLetter(1, 0, 2, Steps.PREPARE, 0, 1, 0, 0, 0);
        run.dueLetter(2, 1, 0, Steps.OK, 0, 0, 0, 1, 0);
        Due.due("what it did stays", run.node(1, 3), 1);
        Due.due("the last one", run.drop(2), 1);
        Due.due("dropped", run.count(1), 2);
        Due.due("letters", run.count(0), 3);
    }

    private static void dropBad() {
        Sentence.is("Promise 4", "BAD: there is none, or it was DROPPED.");
        Run run = new Run(3);
        run.still(Steps.BAD).drop(0);
        run.set(0, 1);
        for (int none : new int[] {-1, 2, 240, MIN, MAX}) {
            run.still(Steps.BAD).drop(none);
        }
        run.drop(1);
        run.still(Steps.BAD).drop(1);
        Due.due("the other one", run.drop(0), 1);
        run.still(Steps.BAD).drop(0);
    }

    // ---- promise 5

    private static void cutOrNot() {
        Sentence.is("Promise 5", "A line between two NODES is cut, or not any more: 1 if it was cut, else 0.");
        for (int n : new int[] {3, 5}) {
            for (int i = 0; i < n; i++) {
                for (int j = 0; j < n; j++) {
                    if (i != j) {
                        dueCut(n, i, j);
                    }
                }
            }
        }
    }

    private static void dueCut(int n, int i, int j) {
        Run run = new Run(n);
        run.still(0).cut(i, j, false);
        Due.due("cut", run.cut(i, j, true), 0);
        run.still(1).cut(i, j, true);
        run.still(1).cut(j, i, true);
        for (int k = 0; k < n; k++) {
            if (k != i && k != j) {
                run.still(0).cut(i, k, false);
                run.still(0).cut(k, j, false);
            }
        }
        Due.due("lines", run.count(3), 1);
        Due.due("not any more", run.cut(j, i, false), 1);
        run.still(0).cut(i, j, false);
        Due.due("lines", run.count(3), 0);
        Due.due("cut once more", run.cut(i, j, true), 0);
    }

    private static void cutBad() {
        Sentence.is("Promise 5", "BAD: also a NODE twice.");
        for (int n : new int[] {3, 5}) {
            Run run = new Run(n);
            run.cut(0, 1, true);
            for (boolean on : new boolean[] {true, false}) {
                for (int node = 0; node < n; node++) {
                    run.still(Steps.BAD).cut(node, node, on);
                }
                for (int none : noNodes(n)) {
                    run.still(Steps.BAD).cut(none, 1, on);
                    run.still(Steps.BAD).cut(1, none, on);
                    run.still(Steps.BAD).cut(none, none, on);
                }
            }
            Due.due("the last node", run.cut(n - 1, 0, true), 0);
        }
    }

    // ---- promise 6

    private static void timeoutOfANode() {
        Sentence.is("Promise 6", "A NODE waits no more: it CHANGES to the VIEW above its own: that VIEW.");
        Run run = new Run(3);
        run.set(0, 1);
        run.spread(0, 1);
        for (int view = 1; view <= 4; view++) {
            int at = run.count(0);
            Due.due("timeout", run.timeout(0), view);
            run.dueNode(0, Steps.CHANGING, view, 0, 1, 1, 0, 0, 0, 0);
            run.duePosted(at, new int[] {0, 1, Steps.CHANGE, view, 0, 0, 0, 0},
                new int[] {0, 2, Steps.CHANGE, view, 0, 0, 0, 0});
        }
        run.dueNode(1, Steps.NORMAL, 0);
        run.pass(0, 2, Steps.CHANGE);
        Due.due("of one with a voter, that voted", run.timeout(2), 5);
        run.dueNode(2, Steps.CHANGING, 5, 0, 0, 0, 0, 0, 0, 0);
        Due.due("of the last node of five", new Run(5).timeout(4), 1);
    }

    private static void timeoutBadAndState() {
        Sentence.is("Promise 6", "BAD; STATE: it is RECOVERING, CRASHED;");
        for (int n : new int[] {3, 5}) {
            Run run = new Run(n);
            run.set(0, 1);
            for (int none : noNodes(n)) {
                run.still(Steps.BAD).timeout(none);
            }
            run.crash(1);
            run.still(Steps.STATE).timeout(1);
            run.recover(1, 0);
            run.still(Steps.STATE).timeout(1);
            Due.due("of another one", run.timeout(2), 1);
        }
    }

    /** VIEW 1000 can't be reached in 512 calls, and later answers are free; this class refuses it all the same. */
    private static void timeoutFull() {
        Sentence.is("Promise 6", "FULL: VIEW 1000.");
        ViewStamps x = new ViewStamps(3);
        for (int view = 1; view <= 1000; view++) {
            Due.due("timeout", x.timeout(2), view);
        }
        long before = x.digest();
        int lost = x.count(2);
        Due.due("in view 1000", x.timeout(2), Steps.FULL);
        Due.due("digest", x.digest(), before);
        Due.due("lost", x.count(2), lost);
        Due.due("of another one", x.timeout(0), 1);
    }

    // ---- promise 7

    private static void resendOfTheFirst() {
        Sentence.is("Promise 7", "A NODE posts once more what it may wait for: the FIRST, NORMAL: PREPARE to ALL;");
        Run run = new Run(3);
        Due.due("with no entry", run.resend(0), 2);
        run.duePosted(0, new int[] {0, 1, Steps.PREPARE, 0, 0, 0, 0, 0}, new int[] {0, 2, Steps.PREPARE, 0, 0, 0, 0, 0});
        run.set(0, 1);
        run.spread(0, 1);
        run.lead(1, 0, 1);
        int at = run.count(0);
        Due.due("of view 1", run.resend(1), 2);
        run.duePosted(at, new int[] {1, 0, Steps.PREPARE, 1, 1, 1, 0, 0}, new int[] {1, 2, Steps.PREPARE, 1, 1, 1, 0, 0});
        run.dueNode(1, Steps.NORMAL, 1, 1, 1, 1);
        Due.due("of five", new Run(5).resend(0), 4);
    }

    private static void resendOfANormalNode() {
        Sentence.is("Promise 7", "NORMAL else: OK to the FIRST;");
        Run run = new Run(5);
        Due.due("with no entry", run.resend(4), 1);
        run.duePosted(0, new int[] {4, 0, Steps.OK, 0, 0, 0, 0, 0});
        run.lead(1, 0, 1, 2);
        run.set(1, 1);
        run.pass(1, 0, Steps.PREPARE);
        int at = run.count(0);
        Due.due("of view 1", run.resend(0), 1);
        run.duePosted(at, new int[] {0, 1, Steps.OK, 1, 0, 0, 1, 0});
    }

    private static void resendOfAChangingNode() {
        Sentence.is("Promise 7", "CHANGING: CHANGE to ALL, and, if it has voted and is not the FIRST, its VOTE as it would be now;");
        Run run = new Run(3);
        run.set(0, 1);
        run.spread(0, 1);
        run.timeout(0);
        int at = run.count(0);
        Due.due("not voted", run.resend(0), 2);
        run.duePosted(at, new int[] {0, 1, Steps.CHANGE, 1, 0, 0, 0, 0}, new int[] {0, 2, Steps.CHANGE, 1, 0, 0, 0, 0});
        run.pass(0, 2, Steps.CHANGE);
        run.pass(2, 0, Steps.CHANGE);
        at = run.count(0);
        Due.due("voted", run.resend(0), 3);
        run.duePosted(at, new int[] {0, 1, Steps.CHANGE, 1, 0, 0, 0, 0}, new int[] {0, 2, Steps.CHANGE, 1, 0, 0, 0, 0},
            new int[] {0, 1, Steps.VOTE, 1, 1, 1, 0, 0});
        run.dueNode(0, Steps.CHANGING, 1, 0, 1, 1, 1, 0, 1);
        run.pass(0, 1, Steps.CHANGE);
        run.dueNode(1, Steps.CHANGING, 1, 0, 1, 0, 1, 1, 1);
        at = run.count(0);
        Due.due("voted, the FIRST", run.resend(1), 2);
        run.duePosted(at, new int[] {1, 0, Steps.CHANGE, 1, 0, 0, 0, 0}, new int[] {1, 2, Steps.CHANGE, 1, 0, 0, 0, 0});
        run.dueNode(1, Steps.CHANGING, 1, 0, 1, 0, 1, 1, 1);
        run.timeout(0);
        at = run.count(0);
        Due.due("not voted in its new view", run.resend(0), 2);
        run.duePosted(at, new int[] {0, 1, Steps.CHANGE, 2}, new int[] {0, 2, Steps.CHANGE, 2});
    }

    private static void resendOfARecoveringNode() {
        Sentence.is("Promise 7", "RECOVERING: ASK to ALL:");
        Run run = new Run(3);
        int[] tells = run.ask(1, 1000000, 0);
        int at = run.count(0);
        Due.due("recovering", run.resend(1), 2);
        run.duePosted(at, new int[] {1, 0, Steps.ASK, 0, 0, 0, 1000000, 0}, new int[] {1, 2, Steps.ASK, 0, 0, 0, 1000000, 0});
        Due.due("its tales stay", run.node(1, 8), 1);
        Due.due("its nonce stays", run.deliver(tells[0]), 1);
    }

    private static void resendCountsLostOnes() {
        Sentence.is("Promise 7", "how many LETTERS (lost ones, too).");
        for (int before = 237; before <= 240; before++) {
            Run run = new Run(3);
            run.timeout(0);
            run.pass(0, 2, Steps.CHANGE);
            for (int letters = run.count(0); letters < before; letters++) {
                run.resend(1);
            }
            Due.due("letters", run.count(0), before);
            Due.due("three, of which not all may fit", run.resend(2), 3);
            Due.due("letters", run.count(0), 240);
            Due.due("lost", run.count(2), before - 237);
        }
    }

    private static void resendBadAndState() {
        Sentence.is("Promise 7", "BAD; STATE: CRASHED.");
        for (int n : new int[] {3, 5}) {
            Run run = new Run(n);
            run.set(0, 1);
            for (int none : noNodes(n)) {
                run.still(Steps.BAD).resend(none);
            }
            run.crash(0);
            run.still(Steps.STATE).resend(0);
            run.recover(0, 1);
            Due.due("recovering", run.resend(0), n - 1);
        }
    }

    // ---- promise 8

    private static void crashLosesAll() {
        Sentence.is("Promise 8", "A NODE is CRASHED: VIEW, LAST VIEW, SURE 0, no LOG, all it knew is gone:");
        Run run = new Run(3);
        run.lead(1, 0, 1);
        run.set(1, 5);
        run.pass(1, 0, Steps.PREPARE);
        run.pass(0, 1, Steps.OK);
        run.dueNode(1, Steps.NORMAL, 1, 1, 1, 1);
        int at = run.count(0);
        Due.due("crash", run.crash(1), 1);
        run.dueNode(1, Steps.CRASHED, 0, 0, 0, 0, 0, 0, 0, 0);
        run.still(Steps.LEAST).entry(1, 1, 0);
        Due.due("register", run.register(1, 0), 0);
        run.still(Steps.STATE).known(1, 0);
        run.duePosted(at);
        run.dueNode(0, Steps.NORMAL, 1, 1, 1, 0);
    }

    private static void crashForgetsWhatItKnew() {
        Sentence.is("Promise 8", "all it knew is gone:");
        Run votes = new Run(5);
        int[] tells = votes.ask(1, 6, 0, 3, 4);
        votes.vote(1, 0, 1, 2);
        votes.pass(0, 1, Steps.VOTE);
        votes.dueNode(1, Steps.CHANGING, 1, 0, 0, 0, 2, 2, 1);
        votes.crash(1);
        votes.dueNode(1, Steps.CRASHED, 0, 0, 0, 0, 0, 0, 0, 0);
        votes.recover(1, 6);
        votes.deliverAll(tells);
        votes.timeout(1);
        votes.dueNode(1, Steps.CHANGING, 1, 0, 0, 0, 0, 0, 0);
        Due.due("a voter of before", votes.pass(0, 1, Steps.CHANGE), 1);
        votes.dueNode(1, Steps.CHANGING, 1, 0, 0, 0, 1, 0, 0);
        Due.due("a vote of before", votes.pass(0, 1, Steps.VOTE), 1);
        votes.dueNode(1, Steps.CHANGING, 1, 0, 0, 0, 1, 1, 0);

        Run tales = new Run(5);
        tells = tales.ask(1, 6, 0, 3);
        Due.due("tales", tales.node(1, 8), 2);
        Due.due("crash of one that recovers", tales.crash(1), 0);
        tales.dueNode(1, Steps.CRASHED, 0, 0, 0, 0, 0, 0, 0, 0);
        tales.recover(1, 6);
        Due.due("tales", tales.node(1, 8), 0);
        tales.deliver(tells[0]);
        Due.due("tales", tales.node(1, 8), 1);

        Run known = LogEdges.leadsTwice(1);
        Due.due("known of the first time", known.known(1, 2), 0);
    }

    private static void crashCountsEntries() {
        Sentence.is("Promise 8", "how many ENTRIES its LOG had.");
        Run run = new Run(3);
        for (int entries = 0; entries <= 16; entries++) {
            Due.due("crash", run.again().crash(0), entries);
            Due.due("crash of one with none", run.again().crash(2), 0);
            run.set(0, 1);
        }
    }

    private static void crashBadAndState() {
        Sentence.is("Promise 8", "BAD; STATE: it is.");
        for (int n : new int[] {3, 5}) {
            Run run = new Run(n);
            run.set(0, 1);
            for (int none : noNodes(n)) {
                run.still(Steps.BAD).crash(none);
            }
            Due.due("crash", run.crash(0), 1);
            run.still(Steps.STATE).crash(0);
            run.recover(0, 1);
            Due.due("crash of one that recovers", run.crash(0), 0);
            run.still(Steps.STATE).crash(0);
            run.timeout(1);
            Due.due("crash of one that changes", run.crash(1), 0);
            Due.due("crash of the last node", run.crash(n - 1), 0);
        }
    }

    // ---- promise 9

    private static void recoverAsksAll() {
        Sentence.is("Promise 9", "A CRASHED NODE is RECOVERING with a NONCE (0 to 1000000), no TALES: ASK is posted to ALL: 1.");
        Run run = new Run(5);
        run.ask(2, 7, 0, 1);
        Due.due("tales", run.node(2, 8), 2);
        run.crash(2);
        int at = run.count(0);
        Due.due("recover", run.recover(2, 8), 1);
        run.dueNode(2, Steps.RECOVERING, 0, 0, 0, 0, 0, 0, 0, 0);
        run.duePosted(at, ask(0), ask(1), ask(3), ask(4));
    }

    private static int[] ask(int to) {
        return new int[] {2, to, Steps.ASK, 0, 0, 0, 8, 0};
    }

    private static void recoverNonce() {
        Sentence.is("Promise 9", "a NONCE (0 to 1000000)");
        Run run = new Run(3);
        run.crash(2);
        for (int nonce : new int[] {-1, 1000001, MIN, MAX}) {
            run.still(Steps.BAD).recover(2, nonce);
            run.still(Steps.BAD).recover(1, nonce);
            run.still(Steps.BAD).recover(3, nonce);
        }
        for (int nonce : new int[] {0, 1, 999999, 1000000}) {
            Run each = run.again();
            Due.due("nonce " + nonce, each.recover(2, nonce), 1);
            Due.due("nonce of its letter", each.letter(0, 6), nonce);
            each.deliver(0);
            Due.due("nonce of the answer", each.letter(2, 6), nonce);
            Due.due("which is taken", each.deliver(2), 1);
        }
    }

    private static void recoverState() {
        Sentence.is("Promise 9", "BAD; STATE: it is not CRASHED.");
        for (int n : new int[] {3, 5}) {
            Run run = new Run(n);
            run.set(0, 1);
            for (int none : noNodes(n)) {
                run.still(Steps.BAD).recover(none, 1);
            }
            run.still(Steps.STATE).recover(1, 1);
            run.timeout(1);
            run.still(Steps.STATE).recover(1, 1);
            run.crash(1);
            Due.due("crashed", run.recover(1, 1), 1);
            run.still(Steps.STATE).recover(1, 1);
            run.still(Steps.STATE).recover(1, 2);
        }
    }
}
