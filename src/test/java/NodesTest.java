/** What nodes do with each sort of letter: the third part of the document's terms. */
public final class NodesTest {
    public static void main(String[] args) {
        prepareInTheSameView();
        prepareOfLikeLength();
        prepareOfAHigherView();
        prepareAtAChangingNode();
        beginLeavesSureWithinTheLog();
        okOfThree();
        okOfFive();
        okElsewhere();
        okNotAboveTheLog();
        changeOfFive();
        voteChoosesTheLog();
        voteTakesSureOfAnotherLog();
        voteTiesByTheLeastNode();
        votesWithoutItsOwn();
        voteTakesTheGreatestSure();
        knowsNothingInANewView();
        tellWaitsForTheFirst();
        tellLatest();
        tellOfAnotherNonce();
        fullPoolStillVotes();
        Due.end();
    }

    private static void prepareInTheSameView() {
        ViewStamps x = new ViewStamps(3);
        Steps.set(x, 0, 1, 4);
        Steps.set(x, 0, 2, 5);
        int longer = 2, shorter = 0;
        Due.due("the longer log", x.deliver(longer), 1);
        Steps.dueNode(x, 1, Steps.NORMAL, 0, 0, 2, 0);
        Steps.dueLetter(x, 4, 1, 0, Steps.OK, 0, 0, 0, 2, 0);
        Due.due("the shorter log", x.deliver(shorter), 1);
        Due.due("its own stays", x.node(1, 3), 2);
        Steps.dueLetter(x, 5, 1, 0, Steps.OK, 0, 0, 0, 2, 0);
        x.deliver(4);
        x.resend(0);
        Due.due("a prepare with sure 2", x.deliver(6), 1);
        Due.due("sure", x.node(1, 4), 2);
        Due.due("an old prepare", x.deliver(shorter), 1);
        Due.due("sure stays", x.node(1, 4), 2);
    }

    /** In the same view only a longer log is taken. */
    private static void prepareOfLikeLength() {
        ViewStamps x = new ViewStamps(3);
        nodeOneLeadsTwice(x, 1);
        Steps.set(x, 1, 1, 99);
        Due.due("a log of like length", Steps.pass(x, 1, 2, Steps.PREPARE), 1);
        Due.due("its own stays", x.entry(2, 1, 5), 1);
        Steps.set(x, 1, 2, 98);
        Due.due("a longer log", Steps.pass(x, 1, 2, Steps.PREPARE), 1);
        Due.due("it is taken whole", x.entry(2, 1, 5), 99);
    }

    private static void prepareOfAHigherView() {
        ViewStamps x = new ViewStamps(3);
        Steps.set(x, 0, 1, 4);
        Steps.set(x, 0, 2, 4);
        Steps.nodeOneLeads(x);
        x.request(1, 3, 1, 1, 2, 0, 9);
        Due.due("prepare of view 1", Steps.pass(x, 1, 0, Steps.PREPARE), 1);
        Steps.dueNode(x, 0, Steps.NORMAL, 1, 1, 1, 0);
        Due.due("the log is the letter's", x.entry(0, 1, 0), 3);
        int ok = x.count(0) - 1;
        Steps.dueLetter(x, ok, 0, 1, Steps.OK, 1, 0, 0, 1, 0);
        Due.due("known before", x.known(1, 0), 0);
        x.deliver(ok);
        Due.due("known", x.known(1, 0), 1);
        Due.due("sure", x.node(1, 4), 1);
    }

    private static void prepareAtAChangingNode() {
        ViewStamps x = new ViewStamps(5);
        x.timeout(2);
        x.timeout(3);
        Steps.pass(x, 2, 1, Steps.CHANGE);
        Steps.pass(x, 3, 1, Steps.CHANGE);
        Steps.pass(x, 2, 4, Steps.CHANGE);
        Steps.pass(x, 3, 4, Steps.CHANGE);
        Steps.pass(x, 1, 2, Steps.CHANGE);
        Steps.pass(x, 3, 2, Steps.CHANGE);
        Steps.pass(x, 4, 1, Steps.VOTE);
        Steps.pass(x, 2, 1, Steps.VOTE);
        Steps.dueNode(x, 1, Steps.NORMAL, 1, 1, 0, 0, 0, 0, 0, 0);
        Steps.set(x, 1, 1, 1);
        Steps.dueNode(x, 2, Steps.CHANGING, 1, 0, 0, 0, 2, 0, 1, 0);
        Due.due("prepare at one that changes", Steps.pass(x, 1, 2, Steps.PREPARE), 1);
        Steps.dueNode(x, 2, Steps.NORMAL, 1, 1, 1, 0, 0, 0, 0, 0);
        Due.due("begin at one that changes", Steps.pass(x, 1, 4, Steps.BEGIN), 1);
        Steps.dueNode(x, 4, Steps.NORMAL, 1, 1, 0, 0, 0, 0, 0, 0);
        Due.due("begin at one that has more", Steps.pass(x, 1, 2, Steps.BEGIN), 1);
        Due.due("its own log stays", x.node(2, 3), 1);
        Steps.dueLetter(x, x.count(0) - 1, 2, 1, Steps.OK, 1, 0, 0, 1, 0);
        Due.due("a prepare of a higher view at one that is normal", Steps.pass(x, 1, 0, Steps.PREPARE), 1);
        Steps.dueNode(x, 0, Steps.NORMAL, 1, 1, 1, 0);
    }

    /** Node 1 is told twice the same old tales, so what stood is lost and node 1 leads with no log. */
    private static void beginLeavesSureWithinTheLog() {
        ViewStamps x = new ViewStamps(3);
        forgetfulNodeOne(x);
        Steps.dueNode(x, 0, Steps.NORMAL, 0, 0, 1, 1);
        Steps.nodeOneLeads(x);
        Due.due("begin of an empty log", Steps.pass(x, 1, 0, Steps.BEGIN), 1);
        Steps.dueNode(x, 0, Steps.NORMAL, 1, 1, 0, 0);
    }

    static void forgetfulNodeOne(ViewStamps x) {
        x.crash(1);
        x.recover(1, 7);
        Steps.pass(x, 1, 0, Steps.ASK);
        Steps.pass(x, 1, 2, Steps.ASK);
        int first = Steps.find(x, 0, 1, Steps.TELL), second = Steps.find(x, 2, 1, Steps.TELL);
        x.deliver(first);
        x.deliver(second);
        Steps.set(x, 0, 1, 40);
        Steps.pass(x, 0, 1, Steps.PREPARE);
        Steps.pass(x, 1, 0, Steps.OK);
        x.crash(1);
        x.recover(1, 7);
        x.deliver(first);
        x.deliver(second);
    }

    private static void okOfThree() {
        ViewStamps x = new ViewStamps(3);
        Steps.set(x, 0, 1, 1);
        Steps.set(x, 0, 2, 2);
        x.deliver(0);
        x.deliver(2);
        x.deliver(5);
        Due.due("known", x.known(0, 1), 2);
        Due.due("one other is enough", x.node(0, 4), 2);
        Due.due("an older ok", x.deliver(4), 1);
        Due.due("the greatest counts", x.known(0, 1), 2);
        Due.due("sure stays", x.node(0, 4), 2);
        Due.due("nothing of the other", x.known(0, 2), 0);
    }

    private static void okOfFive() {
        ViewStamps x = new ViewStamps(5);
        for (int i = 1; i <= 3; i++) {
            Steps.set(x, 0, i, i);
        }
        x.deliver(8);
        x.deliver(5);
        x.deliver(2);
        Due.due("ok of node 1, of 3", x.deliver(12), 1);
        Due.due("one other is not enough", x.node(0, 4), 0);
        Due.due("ok of node 2, of 2", x.deliver(13), 1);
        Due.due("two have two", x.node(0, 4), 2);
        Due.due("ok of node 3, of 1", x.deliver(14), 1);
        Due.due("sure stays", x.node(0, 4), 2);
        x.deliver(11);
        Due.due("ok of node 4, of 3", x.deliver(15), 1);
        Due.due("two have three", x.node(0, 4), 3);
        int[] known = {3, 2, 1, 3};
        for (int other = 1; other <= 4; other++) {
            Due.due("known(0, " + other + ")", x.known(0, other), known[other - 1]);
        }
    }

    private static void okElsewhere() {
        ViewStamps x = new ViewStamps(3);
        x.resend(1);
        x.timeout(0);
        Due.due("ok at a first that changes", x.deliver(0), 0);
        ViewStamps y = new ViewStamps(3);
        y.resend(1);
        y.crash(0);
        Due.due("ok at a first that crashed", y.deliver(0), 0);

        ViewStamps z = new ViewStamps(3);
        Steps.nodeOneLeads(z);
        Steps.pass(z, 1, 2, Steps.BEGIN);
        int ok = Steps.find(z, 2, 1, Steps.OK);
        Due.due("ok of view 1 at its first", z.deliver(ok), 1);
        z.timeout(1);
        Due.due("ok at one of a higher view", z.deliver(ok), 0);
        z.crash(1);
        z.recover(1, 4);
        Due.due("ok at one that recovers", z.deliver(ok), 0);
    }

    /** Node 1 leads view 1 twice; an OK of the first time tells of more than it has the second time. */
    private static void okNotAboveTheLog() {
        ViewStamps x = new ViewStamps(3);
        nodeOneLeadsTwice(x, 2);
        int ok = Steps.find(x, 2, 1, Steps.OK);
        Due.due("count of the ok", x.letter(ok, 6), 2);
        Steps.set(x, 1, 3, 3);
        Due.due("ok", x.deliver(ok), 1);
        Due.due("known", x.known(1, 2), 2);
        Due.due("sure is not above the log", x.node(1, 4), 1);
    }

    /** Tales of a nonce used twice bring node 1 back to view 0, so it leads view 1 anew while node 2 has entries of it. */
    private static void nodeOneLeadsTwice(ViewStamps x, int entries) {
        x.crash(1);
        x.recover(1, 9);
        Steps.pass(x, 1, 0, Steps.ASK);
        Steps.pass(x, 1, 2, Steps.ASK);
        int first = Steps.find(x, 0, 1, Steps.TELL), second = Steps.find(x, 2, 1, Steps.TELL);
        x.deliver(first);
        x.deliver(second);
        Steps.nodeOneLeads(x);
        int change = Steps.find(x, 2, 1, Steps.CHANGE), vote = Steps.find(x, 2, 1, Steps.VOTE);
        for (int i = 1; i <= entries; i++) {
            Steps.set(x, 1, i, i);
        }
        Steps.pass(x, 1, 2, Steps.PREPARE);
        int ok = Steps.find(x, 2, 1, Steps.OK);
        x.crash(1);
        x.recover(1, 9);
        x.deliver(first);
        x.deliver(second);
        Due.due("an ok of a higher view", x.deliver(ok), 0);
        Due.due("change", x.deliver(change), 1);
        Due.due("an ok at one that changes", x.deliver(ok), 0);
        Due.due("vote", x.deliver(vote), 1);
        Steps.dueNode(x, 1, Steps.NORMAL, 1, 1, 0, 0);
        Steps.dueNode(x, 2, Steps.NORMAL, 1, 1, entries, 0);
    }

    /** Like last views, like lengths, other entries. */
    private static void voteTiesByTheLeastNode() {
        ViewStamps x = new ViewStamps(3);
        nodeOneLeadsTwice(x, 1);
        Steps.set(x, 1, 1, 99);
        x.timeout(1);
        Due.due("change", Steps.pass(x, 1, 2, Steps.CHANGE), 1);
        Due.due("change back", Steps.pass(x, 2, 1, Steps.CHANGE), 1);
        Steps.dueNode(x, 2, Steps.CHANGING, 2, 1, 1, 0, 1, 1, 1, 0);
        Due.due("the vote of node 1", Steps.pass(x, 1, 2, Steps.VOTE), 1);
        Steps.dueNode(x, 2, Steps.NORMAL, 2, 2, 1, 0);
        Due.due("the log of the least node", x.entry(2, 1, 5), 99);
    }

    private static void changeOfFive() {
        ViewStamps x = new ViewStamps(5);
        x.timeout(4);
        int at = x.count(0);
        Due.due("change", Steps.pass(x, 4, 3, Steps.CHANGE), 1);
        Steps.dueNode(x, 3, Steps.CHANGING, 1, 0, 0, 0, 1, 0, 0, 0);
        int[] others = {0, 1, 2, 4};
        for (int i = 0; i < 4; i++) {
            Steps.dueLetter(x, at + i, 3, others[i], Steps.CHANGE, 1, 0, 0, 0, 0);
        }
        Due.due("no vote yet", x.count(0), at + 4);
        x.timeout(2);
        at = x.count(0);
        Due.due("the second voter", Steps.pass(x, 2, 3, Steps.CHANGE), 1);
        Steps.dueNode(x, 3, Steps.CHANGING, 1, 0, 0, 0, 2, 0, 1, 0);
        Steps.dueLetter(x, at, 3, 1, Steps.VOTE, 1, 0, 0, 0, 0);
        Due.due("one vote", x.count(0), at + 1);
        x.timeout(0);
        Due.due("the third voter", Steps.pass(x, 0, 3, Steps.CHANGE), 1);
        Due.due("voters", x.node(3, 5), 3);
        Due.due("it votes once", x.count(0), at + 5);
        x.timeout(0);
        Due.due("a change of a higher view", Steps.pass(x, 0, 3, Steps.CHANGE), 1);
        Steps.dueNode(x, 3, Steps.CHANGING, 2, 0, 0, 0, 1, 0, 0, 0);
    }

    /** The greatest last view beats a longer log, and like last views the longer log. */
    private static void voteChoosesTheLog() {
        ViewStamps x = new ViewStamps(5);
        for (int i = 1; i <= 3; i++) {
            Steps.set(x, 0, i, i);
        }
        x.deliver(3);
        x.deliver(7);
        Steps.dueNode(x, 4, Steps.NORMAL, 0, 0, 2, 0);
        leadOfFive(x, 1, 1, 2, 3);
        x.request(1, 2, 1, 0, 5, 0, 55);
        Steps.pass(x, 1, 2, Steps.PREPARE);
        Steps.dueNode(x, 2, Steps.NORMAL, 1, 1, 1, 0);
        x.crash(1);
        leadOfFive(x, 2, 0, 2, 4);
        Steps.dueNode(x, 2, Steps.NORMAL, 2, 2, 1, 0);
        Due.due("the log of the greatest last view", x.entry(2, 1, 5), 55);

        ViewStamps y = new ViewStamps(5);
        for (int i = 1; i <= 3; i++) {
            Steps.set(y, 0, i, i);
        }
        y.deliver(0);
        y.deliver(10);
        y.deliver(5);
        leadOfFive(y, 1, 1, 2, 3);
        Steps.dueNode(y, 1, Steps.NORMAL, 1, 1, 3, 0);
        int begin = Steps.find(y, 1, 0, Steps.BEGIN);
        int[] others = {0, 2, 3, 4};
        for (int i = 0; i < 4; i++) {
            Steps.dueLetter(y, begin + i, 1, others[i], Steps.BEGIN, 1, 3, 0, 0, 0);
        }
    }

    /** Makes the first of a view lead it, with the votes of three of five (the first among them). */
    private static void leadOfFive(ViewStamps x, int view, int... voters) {
        for (int voter : voters) {
            while (x.node(voter, 1) < view) {
                x.timeout(voter);
            }
        }
        for (int to : voters) {
            for (int from : voters) {
                if (from != to) {
                    Steps.pass(x, from, to, Steps.CHANGE);
                }
            }
        }
        for (int voter : voters) {
            if (voter != view % 5) {
                Steps.pass(x, voter, view % 5, Steps.VOTE);
            }
        }
    }

    private static void voteTakesSureOfAnotherLog() {
        ViewStamps x = new ViewStamps(3);
        forgetfulNodeOne(x);
        Steps.nodeOneLeads(x);
        x.request(1, 1, 1, 0, 1, 0, 41);
        Steps.pass(x, 1, 2, Steps.PREPARE);
        Steps.dueNode(x, 2, Steps.NORMAL, 1, 1, 1, 0);
        Steps.dueNode(x, 0, Steps.NORMAL, 0, 0, 1, 1);
        x.timeout(0);
        x.timeout(0);
        Due.due("change", Steps.pass(x, 0, 2, Steps.CHANGE), 1);
        Due.due("change back", Steps.pass(x, 2, 0, Steps.CHANGE), 1);
        Due.due("vote of last view 0", Steps.pass(x, 0, 2, Steps.VOTE), 1);
        Due.due("the log of last view 1", x.entry(2, 1, 5), 41);
        Due.due("the greatest sure, of another log", x.node(2, 4), 1);
    }

    private static void votesWithoutItsOwn() {
        ViewStamps x = new ViewStamps(3);
        x.timeout(2);
        Steps.pass(x, 2, 0, Steps.CHANGE);
        Steps.pass(x, 0, 2, Steps.CHANGE);
        int at = x.count(0);
        Due.due("a vote of a higher view", Steps.pass(x, 0, 1, Steps.VOTE), 1);
        Steps.dueNode(x, 1, Steps.CHANGING, 1, 0, 0, 0, 0, 1, 0, 0);
        Steps.dueLetter(x, at, 1, 0, Steps.CHANGE, 1, 0, 0, 0, 0);
        Steps.dueLetter(x, at + 1, 1, 2, Steps.CHANGE, 1, 0, 0, 0, 0);
        Due.due("the second vote", Steps.pass(x, 2, 1, Steps.VOTE), 1);
        Steps.dueNode(x, 1, Steps.CHANGING, 1, 0, 0, 0, 0, 2, 0, 0);
        Due.due("its own", Steps.pass(x, 2, 1, Steps.CHANGE), 1);
        Steps.dueNode(x, 1, Steps.NORMAL, 1, 1, 0, 0, 0, 0, 0, 0);
        Due.due("no own vote in the pool", Steps.find(x, 1, 1, Steps.VOTE), -1);
        Steps.dueLetter(x, at + 2, 1, 0, Steps.BEGIN, 1, 0, 0, 0, 0);
        Steps.dueLetter(x, at + 3, 1, 2, Steps.BEGIN, 1, 0, 0, 0, 0);
    }

    private static void voteTakesTheGreatestSure() {
        ViewStamps x = new ViewStamps(3);
        Steps.set(x, 0, 1, 8);
        x.deliver(0);
        x.deliver(2);
        Steps.dueNode(x, 0, Steps.NORMAL, 0, 0, 1, 1);
        x.timeout(0);
        Steps.pass(x, 0, 1, Steps.CHANGE);
        Steps.dueNode(x, 1, Steps.CHANGING, 1, 0, 1, 0, 1, 1, 1, 0);
        Steps.pass(x, 1, 0, Steps.CHANGE);
        int vote = Steps.find(x, 0, 1, Steps.VOTE);
        Steps.dueLetter(x, vote, 0, 1, Steps.VOTE, 1, 1, 1, 0, 0);
        x.deliver(vote);
        Steps.dueNode(x, 1, Steps.NORMAL, 1, 1, 1, 1);
        Due.due("register", x.register(1, 0), 8);
        Steps.dueLetter(x, Steps.find(x, 1, 2, Steps.BEGIN), 1, 2, Steps.BEGIN, 1, 1, 1, 0, 0);
        Due.due("begin", Steps.pass(x, 1, 2, Steps.BEGIN), 1);
        Steps.dueNode(x, 2, Steps.NORMAL, 1, 1, 1, 1);
        Due.due("register", x.register(2, 0), 8);
        x.timeout(2);
        Steps.pass(x, 2, 0, Steps.CHANGE);
        Steps.dueLetter(x, x.count(0) - 1, 0, 2, Steps.VOTE, 2, 1, 1, 0, 0);
        Steps.pass(x, 2, 1, Steps.CHANGE);
        Steps.dueLetter(x, x.count(0) - 1, 1, 2, Steps.VOTE, 2, 1, 1, 1, 0);
    }

    private static void knowsNothingInANewView() {
        ViewStamps x = new ViewStamps(3);
        Steps.set(x, 0, 1, 8);
        x.deliver(0);
        x.deliver(2);
        Due.due("known in view 0", x.known(0, 1), 1);
        for (int i = 0; i < 3; i++) {
            x.timeout(0);
            x.timeout(1);
        }
        Due.due("view 3", x.node(0, 1), 3);
        Due.due("no such one", x.known(0, 1), Steps.STATE);
        Steps.pass(x, 1, 0, Steps.CHANGE);
        Steps.pass(x, 0, 1, Steps.CHANGE);
        Steps.pass(x, 1, 0, Steps.VOTE);
        Steps.dueNode(x, 0, Steps.NORMAL, 3, 3, 1, 1);
        Due.due("known in view 3", x.known(0, 1), 0);
        Due.due("an ok of view 0", x.deliver(2), 0);
        Due.due("known in view 3", x.known(0, 1), 0);
    }

    private static void tellWaitsForTheFirst() {
        ViewStamps x = new ViewStamps(5);
        Steps.set(x, 0, 1, 6);
        x.deliver(0);
        x.deliver(1);
        x.deliver(4);
        x.deliver(5);
        x.crash(4);
        x.recover(4, 12);
        for (int to = 0; to < 4; to++) {
            Steps.pass(x, 4, to, Steps.ASK);
        }
        Steps.dueLetter(x, Steps.find(x, 1, 4, Steps.TELL), 1, 4, Steps.TELL, 0, 1, 0, 12, 0);
        Steps.dueLetter(x, Steps.find(x, 0, 4, Steps.TELL), 0, 4, Steps.TELL, 0, 1, 1, 12, 0);
        for (int from = 1; from < 4; from++) {
            Due.due("tell", Steps.pass(x, from, 4, Steps.TELL), 1);
            Due.due("tales", x.node(4, 8), from);
        }
        Steps.dueNode(x, 4, Steps.RECOVERING, 0, 0, 0, 0);
        int at = x.count(0);
        Due.due("the first's", Steps.pass(x, 0, 4, Steps.TELL), 1);
        Steps.dueNode(x, 4, Steps.NORMAL, 0, 0, 1, 1, 0, 0, 0, 0);
        Due.due("no ok", x.count(0), at);
        Due.due("register", x.register(4, 0), 6);
        Due.due("a tell at one that is normal", Steps.pass(x, 0, 4, Steps.TELL), 0);
    }

    /** The first of an old view is not believed when a newer view is told of. */
    private static void tellLatest() {
        ViewStamps x = new ViewStamps(5);
        leadOfFive(x, 1, 1, 2, 3);
        Steps.set(x, 1, 1, 6);
        Steps.pass(x, 1, 2, Steps.PREPARE);
        x.crash(4);
        x.recover(4, 12);
        Due.due("ask at an old first", Steps.pass(x, 4, 0, Steps.ASK), 1);
        Due.due("ask in view 1", Steps.pass(x, 4, 2, Steps.ASK), 1);
        Due.due("ask at one that changes", Steps.pass(x, 4, 3, Steps.ASK), 0);
        Due.due("the old first's", Steps.pass(x, 0, 4, Steps.TELL), 1);
        Due.due("one of view 1", Steps.pass(x, 2, 4, Steps.TELL), 1);
        Due.due("twice", Steps.pass(x, 2, 4, Steps.TELL), 1);
        Steps.dueNode(x, 4, Steps.RECOVERING, 0, 0, 0, 0, 0, 0, 0, 2);
        Steps.pass(x, 1, 3, Steps.BEGIN);
        Steps.pass(x, 4, 3, Steps.ASK);
        Steps.pass(x, 3, 4, Steps.TELL);
        Steps.dueNode(x, 4, Steps.RECOVERING, 0, 0, 0, 0, 0, 0, 0, 3);
        Steps.pass(x, 4, 1, Steps.ASK);
        Steps.pass(x, 1, 4, Steps.TELL);
        Steps.dueNode(x, 4, Steps.NORMAL, 1, 1, 1, 0, 0, 0, 0, 0);

        ViewStamps y = new ViewStamps(3);
        y.crash(2);
        y.recover(2, 3);
        Steps.pass(y, 2, 0, Steps.ASK);
        int old = Steps.find(y, 0, 2, Steps.TELL);
        Steps.set(y, 0, 1, 1);
        Steps.pass(y, 2, 0, Steps.ASK);
        int later = Steps.find(y, 0, 2, Steps.TELL);
        Due.due("the later", y.deliver(later), 1);
        Due.due("the old one, told later", y.deliver(old), 1);
        Due.due("one tale of each", y.node(2, 8), 1);
        Steps.pass(y, 2, 1, Steps.ASK);
        Steps.pass(y, 1, 2, Steps.TELL);
        Steps.dueNode(y, 2, Steps.NORMAL, 0, 0, 0, 0);
    }

    private static void tellOfAnotherNonce() {
        ViewStamps x = new ViewStamps(3);
        x.crash(2);
        x.recover(2, 3);
        Steps.pass(x, 2, 0, Steps.ASK);
        x.crash(2);
        Due.due("a tell at a crashed one", Steps.pass(x, 0, 2, Steps.TELL), 0);
        x.recover(2, 4);
        Due.due("a tell of nonce 3", Steps.pass(x, 0, 2, Steps.TELL), 0);
        Due.due("no tales", x.node(2, 8), 0);
        Due.due("an ask at a crashed one does nothing", askAtCrashed(), 0);
    }

    private static int askAtCrashed() {
        ViewStamps x = new ViewStamps(3);
        x.crash(2);
        x.recover(2, 3);
        x.crash(0);
        return Steps.pass(x, 2, 0, Steps.ASK);
    }

    /** A first's own vote needs no room in the pool, and votes that lie there still count. */
    private static void fullPoolStillVotes() {
        ViewStamps x = new ViewStamps(3);
        x.timeout(2);
        Steps.pass(x, 2, 0, Steps.CHANGE);
        int change = Steps.find(x, 2, 1, Steps.CHANGE), vote = Steps.find(x, 0, 1, Steps.VOTE);
        while (x.count(0) < 240) {
            x.resend(1);
        }
        Due.due("change", x.deliver(change), 1);
        Steps.dueNode(x, 1, Steps.CHANGING, 1, 0, 0, 0, 1, 1, 1, 0);
        Due.due("vote", x.deliver(vote), 1);
        Steps.dueNode(x, 1, Steps.NORMAL, 1, 1, 0, 0);
        Due.due("letters", x.count(0), 240);
        Due.due("lost: two changes, two begins", x.count(2), 4);
    }
}
