/** The document's third part: the letters CHANGE and VOTE. */
final class VoteEdges {
    private static final String TERMS = "Terms";

    private VoteEdges() {
    }

    static void test() {
        changeOfAViewAbove();
        changeMakesAVoter();
        enoughVoters();
        voteOfItsOwn();
        changes();
        changesLosesVotes();
        voteOfAViewAbove();
        firstVoteOfEach();
        enoughVotes();
        greatestCount();
        mostEntries();
        leastNode();
        greatestSure();
        sureWithinTheLog();
        normalAgain();
    }

    private static void changeOfAViewAbove() {
        Sentence.is(TERMS, "3 CHANGE: if the VIEW is above the NODE's: it CHANGES to that.");
        for (int view = 1; view <= 3; view++) {
            Run run = new Run(5);
            for (int i = 0; i < view; i++) {
                run.timeout(4);
            }
            int at = run.count(0);
            Due.due("deliver", run.pass(4, 3, Steps.CHANGE), 1);
            run.dueNode(3, Steps.CHANGING, view, 0, 0, 0, 1, 0, 0);
            run.duePosted(at, new int[] {3, 0, Steps.CHANGE, view}, new int[] {3, 1, Steps.CHANGE, view},
                new int[] {3, 2, Steps.CHANGE, view}, new int[] {3, 4, Steps.CHANGE, view});
        }
        Run same = new Run(5);
        same.timeout(4);
        same.timeout(3);
        same.timeout(2);
        same.pass(2, 3, Steps.CHANGE);
        int at = same.count(0);
        Due.due("of the same view", same.pass(4, 3, Steps.CHANGE), 1);
        same.dueNode(3, Steps.CHANGING, 1, 0, 0, 0, 2, 0, 1);
        same.duePosted(at, new int[] {3, 1, Steps.VOTE, 1});
        same.timeout(3);
        same.still(0).deliver(same.letterOf(4, 3, Steps.CHANGE));
    }

    private static void changeMakesAVoter() {
        Sentence.is(TERMS, "Then, if it is CHANGING, the sender is one of its VOTERS.");
        Run run = new Run(5);
        for (int node = 0; node < 5; node++) {
            run.timeout(node);
        }
        for (int from = 0; from < 4; from++) {
            Due.due("deliver", run.pass(from, 4, Steps.CHANGE), 1);
            Due.due("voters", run.node(4, 5), from + 1);
            run.still(0).deliver(run.letterOf(from, 4, Steps.CHANGE));
        }
        Run normal = new Run(3);
        normal.timeout(2);
        normal.lead(1, 0, 1);
        normal.dueNode(1, Steps.NORMAL, 1);
        normal.still(0).deliver(normal.letterOf(2, 1, Steps.CHANGE));
        normal.still(0).deliver(normal.letterOf(0, 1, Steps.CHANGE));
    }

    private static void enoughVoters() {
        Sentence.is(TERMS, "With F VOTERS, and if it has not voted in this VIEW: it votes:"
            + " 4 VOTE (LOG, SURE, COUNT: its LAST VIEW) is posted to the FIRST,");
        for (int n : new int[] {3, 5}) {
            Run run = new Run(n);
            run.set(0, 1);
            run.spread(0, n == 3 ? new int[] {1} : new int[] {1, 2});
            for (int node = 0; node < n; node++) {
                run.timeout(node);
                run.timeout(node);
            }
            int first = 2, at = run.count(0);
            for (int voters = 1; voters < n; voters++) {
                Due.due("voted with " + (voters - 1), run.node(0, 7), voters - 1 >= run.f ? 1 : 0);
                Due.due("deliver", run.pass(voters, 0, Steps.CHANGE), 1);
            }
            run.duePosted(at, new int[] {0, first, Steps.VOTE, 2, 1, 1, 0, 0});
        }
        Run later = new Run(3);
        later.lead(1, 0, 1);
        later.pass(1, 0, Steps.BEGIN);
        later.set(1, 1);
        later.spread(1, 0);
        later.timeout(1);
        later.pass(1, 0, Steps.CHANGE);
        later.dueLetter(later.letterOf(0, 2, Steps.VOTE), 0, 2, Steps.VOTE, 2, 1, 0, 1, 0);
        later.timeout(0);
        later.dueNode(0, Steps.CHANGING, 3, 1, 1, 0, 0, 0, 0);
        later.timeout(0);
        later.timeout(1);
        later.timeout(1);
        int at = later.count(0);
        later.pass(1, 0, Steps.CHANGE);
        later.duePosted(at, new int[] {0, 1, Steps.VOTE, 4, 1, 0, 1, 0});
    }

    private static void voteOfItsOwn() {
        Sentence.is(TERMS, "or, if it is that itself, is DELIVERED to it at once (as a LETTER from itself, not in THE POOL).");
        Run run = new Run(5);
        for (int node = 0; node < 5; node++) {
            run.timeout(node);
        }
        int at = run.count(0);
        run.pass(0, 1, Steps.CHANGE);
        run.dueNode(1, Steps.CHANGING, 1, 0, 0, 0, 1, 0, 0);
        run.pass(2, 1, Steps.CHANGE);
        run.dueNode(1, Steps.CHANGING, 1, 0, 0, 0, 2, 1, 1);
        run.pass(3, 1, Steps.CHANGE);
        run.dueNode(1, Steps.CHANGING, 1, 0, 0, 0, 3, 1, 1);
        run.duePosted(at);

        Run last = new Run(3);
        last.timeout(1);
        last.pass(1, 0, Steps.CHANGE);
        last.pass(0, 1, Steps.VOTE);
        last.dueNode(1, Steps.CHANGING, 1, 0, 0, 0, 0, 1, 0);
        at = last.count(0);
        Due.due("its own vote is the last one", last.pass(0, 1, Steps.CHANGE), 1);
        last.dueNode(1, Steps.NORMAL, 1, 1, 0, 0, 0, 0, 0);
        last.duePosted(at, new int[] {1, 0, Steps.BEGIN, 1}, new int[] {1, 2, Steps.BEGIN, 1});
    }

    /** Node 1 of five is CHANGING in VIEW 1, has three VOTERS, has voted and has two VOTES, its own among them. */
    private static Run halfway() {
        Run run = new Run(5);
        run.set(0, 1);
        run.spread(0, 1);
        run.vote(1, 0, 1, 2);
        run.timeout(3);
        run.pass(3, 1, Steps.CHANGE);
        run.pass(0, 1, Steps.VOTE);
        run.dueNode(1, Steps.CHANGING, 1, 0, 1, 0, 3, 2, 1);
        return run;
    }

    private static void changes() {
        Sentence.is(TERMS, "A NODE CHANGES to a VIEW: that is its VIEW, CHANGING, no VOTERS, not voted, no VOTES;"
            + " CHANGE is posted to ALL.");
        Run run = halfway();
        int at = run.count(0);
        run.timeout(1);
        run.dueNode(1, Steps.CHANGING, 2, 0, 1, 0, 0, 0, 0, 0);
        run.duePosted(at, new int[] {1, 0, Steps.CHANGE, 2, 0, 0, 0, 0}, new int[] {1, 2, Steps.CHANGE, 2, 0, 0, 0, 0},
            new int[] {1, 3, Steps.CHANGE, 2, 0, 0, 0, 0}, new int[] {1, 4, Steps.CHANGE, 2, 0, 0, 0, 0});
        Run told = halfway();
        told.timeout(4);
        told.timeout(4);
        told.pass(4, 1, Steps.CHANGE);
        told.dueNode(1, Steps.CHANGING, 2, 0, 1, 0, 1, 0, 0, 0);
    }

    /** Node 1 is the FIRST of VIEWS 1 and 6, and what it had in 1 does not count in 6. */
    private static void changesLosesVotes() {
        Sentence.is(TERMS, "no VOTERS, not voted, no VOTES;");
        Run run = halfway();
        while (run.node(1, 1) < 6) {
            run.timeout(1);
        }
        while (run.node(0, 1) < 6) {
            run.timeout(0);
        }
        run.pass(0, 2, Steps.CHANGE);
        run.pass(1, 2, Steps.CHANGE);
        run.pass(2, 1, Steps.VOTE);
        run.dueNode(1, Steps.CHANGING, 6, 0, 1, 0, 0, 1, 0);
        run.pass(2, 1, Steps.CHANGE);
        run.dueNode(1, Steps.CHANGING, 6, 0, 1, 0, 1, 1, 0);
        run.pass(0, 1, Steps.CHANGE);
        run.dueNode(1, Steps.CHANGING, 6, 0, 1, 0, 2, 2, 1);
    }

    private static void voteOfAViewAbove() {
        Sentence.is(TERMS, "4 VOTE: at the FIRST of that VIEW: if the VIEW is above its own, it CHANGES to that.");
        for (int view : new int[] {1, 4}) {
            Run run = new Run(3);
            run.vote(view, 0, 2);
            int at = run.count(0);
            Due.due("deliver", run.pass(0, 1, Steps.VOTE), 1);
            run.dueNode(1, Steps.CHANGING, view, 0, 0, 0, 0, 1, 0);
            run.duePosted(at, new int[] {1, 0, Steps.CHANGE, view}, new int[] {1, 2, Steps.CHANGE, view});
            Due.due("of the same view", run.pass(2, 1, Steps.VOTE), 1);
            run.dueNode(1, Steps.CHANGING, view, 0, 0, 0, 0, 2, 0);
            run.duePosted(at + 2);
            run.timeout(1);
            run.still(0).deliver(run.letterOf(2, 1, Steps.VOTE));
        }
    }

    /** Node 2 votes for node 1 twice in VIEW 1: with no ENTRY, and, as it recovers to VIEW 0 in between, with one. */
    private static void firstVoteOfEach() {
        Sentence.is(TERMS, "Then, if it is CHANGING: the vote is one of its VOTES (of each NODE the first one).");
        Run run = new Run(3);
        int[] empty = run.ask(2, 7, 0, 1);
        run.set(0, 5);
        run.pass(2, 0, Steps.ASK);
        int longer = run.letterOf(0, 2, Steps.TELL);
        run.vote(1, 0, 2);
        int change = run.letterOf(0, 2, Steps.CHANGE), first = run.letterOf(2, 1, Steps.VOTE);
        run.forget(2, 7, empty[1], longer);
        run.deliver(change);
        int second = run.letterOf(2, 1, Steps.VOTE);
        run.dueLetter(first, 2, 1, Steps.VOTE, 1, 0);
        run.dueLetter(second, 2, 1, Steps.VOTE, 1, 1);
        Run other = run.again();
        Due.due("the first", run.deliver(first), 1);
        run.still(0).deliver(second);
        run.still(0).deliver(first);
        run.deliver(second);
        run.pass(2, 1, Steps.CHANGE);
        run.dueNode(1, Steps.NORMAL, 1, 1, 0);
        run.still(0).deliver(first);
        run.still(0).deliver(second);
        Due.due("the second ahead of the first", other.deliver(second), 1);
        other.still(0).deliver(first);
        other.deliver(first);
        other.pass(2, 1, Steps.CHANGE);
        other.dueNode(1, Steps.NORMAL, 1, 1, 1);
    }

    private static void enoughVotes() {
        Sentence.is(TERMS, "With F + 1 VOTES, its own among them:");
        Run own = new Run(5);
        own.vote(1, 0, 1, 2);
        own.dueNode(1, Steps.CHANGING, 1, 0, 0, 0, 2, 1, 1);
        own.pass(0, 1, Steps.VOTE);
        own.dueNode(1, Steps.CHANGING, 1, 0, 0, 0, 2, 2, 1);
        own.pass(2, 1, Steps.VOTE);
        own.dueNode(1, Steps.NORMAL, 1, 1);

        Run others = new Run(5);
        others.vote(1, 0, 2, 3, 4);
        int[] voters = {0, 2, 3, 4};
        for (int i = 0; i < 4; i++) {
            others.pass(voters[i], 1, Steps.VOTE);
            others.dueNode(1, Steps.CHANGING, 1, 0, 0, 0, 0, i + 1, 0);
        }
        others.pass(0, 1, Steps.CHANGE);
        others.dueNode(1, Steps.CHANGING, 1, 0, 0, 0, 1, 4, 0);
        others.pass(2, 1, Steps.CHANGE);
        others.dueNode(1, Steps.NORMAL, 1, 1);

        Run three = new Run(3);
        three.vote(1, 0, 2);
        three.pass(0, 1, Steps.VOTE);
        three.dueNode(1, Steps.CHANGING, 1, 0, 0, 0, 0, 1, 0);
        three.pass(2, 1, Steps.VOTE);
        three.dueNode(1, Steps.CHANGING, 1, 0, 0, 0, 0, 2, 0);
        three.pass(2, 1, Steps.CHANGE);
        three.dueNode(1, Steps.NORMAL, 1, 1);
    }

    /** Node 0 has two ENTRIES of VIEW 0, nodes 1 and 2 one of VIEW 1: a later VIEW counts more than a longer LOG. */
    private static void greatestCount() {
        Sentence.is(TERMS, "the LOG is that of the VOTE with the greatest COUNT,");
        Run run = new Run(3);
        run.set(0, 1);
        run.set(0, 2);
        run.lead(1, 1, 2);
        run.set(1, 31);
        run.pass(1, 2, Steps.PREPARE);
        Run own = run.again(), other = run.again(), lesser = run.again();
        own.lead(2, 2, 0);
        own.dueValues(2, 31);
        other.lead(3, 2, 0);
        other.dueValues(0, 31);
        lesser.lead(3, 0, 1);
        lesser.dueValues(0, 31);
    }

    /** The NODE with most ENTRIES is the least, the one between, or the greatest of the voters; and the FIRST or not. */
    private static void mostEntries() {
        Sentence.is(TERMS, "of like ones with most ENTRIES,");
        Run run = new Run(5);
        run.set(0, 1);
        run.set(0, 2);
        run.set(0, 3);
        // node 1 has one entry, node 2 two, node 3 three, node 4 none
        run.deliverAll(0, 5, 10);
        int[][] cases = {{1, 1, 2, 4, 2}, {2, 1, 2, 4, 2}, {4, 1, 2, 4, 2}, {1, 1, 2, 3, 3}, {2, 1, 2, 3, 3},
            {3, 1, 2, 3, 3}, {3, 3, 2, 4, 3}, {6, 1, 4, 2, 2},
            {4, 3, 0, 4, 3}, {5, 2, 0, 1, 3}, {2, 2, 0, 1, 3}};
        for (int[] each : cases) {
            Run one = run.again();
            one.lead(each[0], each[1], each[2], each[3]);
            Due.due("entries of the first", one.node(each[0] % 5, 3), each[4]);
        }
    }

    /** Node 1 has 91, node 2 has 1, both of VIEW 1. */
    private static void leastNode() {
        Sentence.is(TERMS, "of like ones of the least NODE;");
        Run run = LogEdges.leadsTwice(1);
        run.set(1, 91);
        run.dueValues(2, 1);
        Run own = run.again(), other = run.again();
        own.lead(4, 2, 1);
        own.dueValues(1, 91);
        other.lead(2, 1, 2);
        other.dueValues(2, 91);
        run.set(1, 92);
        run.lead(2, 1, 2);
        run.dueValues(2, 91, 92);

        Run longer = LogEdges.leadsTwice(2);
        longer.set(1, 91);
        longer.lead(2, 1, 2);
        longer.dueValues(2, 1, 2);
    }

    private static void greatestSure() {
        Sentence.is(TERMS, "SURE is the greatest of the VOTES'");
        Run run = new Run(5);
        run.set(0, 1);
        run.set(0, 2);
        run.spread(0, 1, 2);
        run.set(0, 3);
        run.pass(0, 3, Steps.PREPARE);
        run.dueNode(0, Steps.NORMAL, 0, 0, 3, 2);
        run.dueNode(1, Steps.NORMAL, 0, 0, 2, 0);
        run.dueNode(3, Steps.NORMAL, 0, 0, 3, 2);
        int[][] cases = {{1, 0, 1, 2, 3, 2}, {1, 1, 2, 4, 2, 0}, {3, 1, 2, 3, 3, 2}, {5, 0, 1, 4, 3, 2}, {4, 2, 3, 4, 3, 2}};
        for (int[] each : cases) {
            Run one = run.again();
            one.lead(each[0], each[1], each[2], each[3]);
            one.dueNode(each[0] % 5, Steps.NORMAL, each[0], each[0], each[4], each[5]);
        }
    }

    /** Node 0 is sure of two that node 1 forgot; node 2 has those of VIEW 1, so its LOG is taken, and node 0's SURE. */
    private static void sureWithinTheLog() {
        Sentence.is(TERMS, "(not above how many ENTRIES there are);");
        for (int entries = 0; entries <= 3; entries++) {
            Run run = new Run(3);
            int[] tells = run.ask(1, 7, 0, 2);
            run.set(0, 1);
            run.set(0, 2);
            run.spread(0, 1);
            run.forget(1, 7, tells);
            run.lead(1, 1, 2);
            for (int v = 1; v <= entries; v++) {
                run.set(1, 60 + v);
            }
            run.pass(1, 2, entries == 0 ? Steps.BEGIN : Steps.PREPARE);
            run.lead(2, 2, 0);
            run.dueNode(2, Steps.NORMAL, 2, 2, entries, Math.min(2, entries));
        }
    }

    private static void normalAgain() {
        Sentence.is(TERMS, "NORMAL; LAST VIEW is its VIEW; it knows of no other NODE's ENTRIES; BEGIN is posted to ALL.");
        Run run = new Run(3);
        run.set(0, 1);
        run.spread(0, 1);
        run.spread(0, 2);
        Due.due("known", run.known(0, 1), 1);
        Due.due("known", run.known(0, 2), 1);
        run.vote(3, 0, 1);
        int at = run.count(0);
        run.pass(1, 0, Steps.VOTE);
        run.dueNode(0, Steps.NORMAL, 3, 3, 1, 1, 0, 0, 0, 0);
        run.duePosted(at, new int[] {0, 1, Steps.BEGIN, 3, 1, 1, 0, 0}, new int[] {0, 2, Steps.BEGIN, 3, 1, 1, 0, 0});
        Due.due("known", run.known(0, 1), 0);
        Due.due("known", run.known(0, 2), 0);
        run.set(0, 2);
        run.pass(0, 1, Steps.PREPARE);
        run.dueNode(0, Steps.NORMAL, 3, 3, 2, 1);
        run.pass(1, 0, Steps.OK);
        run.dueNode(0, Steps.NORMAL, 3, 3, 2, 2);

        Run five = new Run(5);
        five.vote(3, 1, 3, 4);
        five.pass(1, 3, Steps.VOTE);
        at = five.count(0);
        five.pass(4, 3, Steps.VOTE);
        five.dueNode(3, Steps.NORMAL, 3, 3);
        five.duePosted(at, new int[] {3, 0, Steps.BEGIN, 3}, new int[] {3, 1, Steps.BEGIN, 3},
            new int[] {3, 2, Steps.BEGIN, 3}, new int[] {3, 4, Steps.BEGIN, 3});
    }
}
