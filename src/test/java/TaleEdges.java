/** The document's third part: the letters ASK and TELL. */
final class TaleEdges {
    private static final String TERMS = "Terms";

    private TaleEdges() {
    }

    static void test() {
        askAtANormalNode();
        tellToTheSender();
        tellOfThatNonce();
        latestOfEach();
        enoughTales();
        greatestView();
        ofTheFirst();
        asTheTale();
    }

    private static void askAtANormalNode() {
        Sentence.is(TERMS, "6 ASK (VIEW 0; COUNT: a NONCE): at a NODE that is NORMAL:");
        Run run = new Run(5);
        run.lead(1, 0, 1, 2);
        run.timeout(3);
        run.crash(4);
        int at = run.count(0);
        run.recover(4, 1000000);
        int[] asks = {at, at + 1, at + 2, at + 3};
        for (int to = 0; to < 4; to++) {
            run.dueLetter(asks[to], 4, to, Steps.ASK, 0, 0, 0, 1000000, 0);
        }
        run.dueNode(0, Steps.CHANGING);
        run.still(0).deliver(asks[0]);
        run.still(0).deliver(asks[3]);
        run.dueNode(1, Steps.NORMAL, 1);
        Due.due("at a normal one whose view is above", run.deliver(asks[1]), 1);
        Due.due("it is answered", run.count(0), at + 5);
        run.crash(1);
        run.still(0).deliver(asks[1]);
        run.recover(1, 3);
        run.still(0).deliver(asks[1]);
    }

    private static void tellToTheSender() {
        Sentence.is(TERMS, "7 TELL (its VIEW, LOG, SURE, COUNT: that NONCE) is posted to the sender.");
        for (int nonce : new int[] {0, 1, 1000000}) {
            Run run = new Run(3);
            run.set(0, 1);
            run.spread(0, 1);
            run.set(0, 2);
            run.lead(1, 0, 1);
            run.crash(2);
            run.recover(2, nonce);
            int at = run.count(0);
            run.pass(2, 1, Steps.ASK);
            run.duePosted(at, new int[] {1, 2, Steps.TELL, 1, 2, 1, nonce, 0});
            run.pass(2, 1, Steps.ASK);
            run.duePosted(at + 1, new int[] {1, 2, Steps.TELL, 1, 2, 1, nonce, 0});
        }
    }

    private static void tellOfThatNonce() {
        Sentence.is(TERMS, "7 TELL: at a NODE that is RECOVERING with that NONCE:");
        Run run = new Run(3);
        int[] tells = run.ask(2, 5, 0);
        run.dueNode(2, Steps.RECOVERING, 0, 0, 0, 0, 0, 0, 0, 1);
        run.crash(2);
        run.still(0).deliver(tells[0]);
        for (int nonce = 4; nonce <= 6; nonce++) {
            Run each = run.again();
            each.recover(2, nonce);
            if (nonce != 5) {
                each.still(0).deliver(tells[0]);
            }
            Due.due("of nonce 5 at one with " + nonce, each.deliver(tells[0]), nonce == 5 ? 1 : 0);
            Due.due("tales", each.node(2, 8), nonce == 5 ? 1 : 0);
        }

        Run zero = new Run(3);
        tells = zero.ask(2, 0, 0, 1);
        zero.dueNode(2, Steps.NORMAL);
        zero.still(0).deliver(tells[0]);
        zero.timeout(2);
        zero.still(0).deliver(tells[0]);
        zero.crash(2);
        zero.still(0).deliver(tells[0]);
        zero.recover(2, 0);
        Due.due("of nonce 0 once more", zero.deliver(tells[0]), 1);
        Due.due("tales", zero.node(2, 8), 1);
    }

    private static void latestOfEach() {
        Sentence.is(TERMS, "it is one of its TALES (of each NODE the latest).");
        Run run = new Run(3);
        int[] empty = run.ask(2, 3, 0);
        run.set(0, 1);
        run.pass(2, 0, Steps.ASK);
        int longer = run.letterOf(0, 2, Steps.TELL);
        run.pass(2, 1, Steps.ASK);
        int last = run.letterOf(1, 2, Steps.TELL);
        int[][] orders = {{empty[0], longer, 1}, {longer, empty[0], 0}, {longer, longer, 1}, {empty[0], empty[0], 0}};
        for (int[] order : orders) {
            Run each = run.again();
            for (int i = 0; i < 2; i++) {
                Due.due("a tale", each.deliver(order[i]), 1);
                Due.due("one of each", each.node(2, 8), 1);
            }
            Due.due("a tale of the other", each.deliver(last), 1);
            each.dueNode(2, Steps.NORMAL, 0, 0, order[2], 0, 0, 0, 0, 0);
        }
    }

    private static void enoughTales() {
        Sentence.is(TERMS, "With F + 1 TALES,");
        Run three = new Run(3);
        three.ask(1, 8, 0);
        three.dueNode(1, Steps.RECOVERING, 0, 0, 0, 0, 0, 0, 0, 1);
        three.pass(1, 2, Steps.ASK);
        three.pass(2, 1, Steps.TELL);
        three.dueNode(1, Steps.NORMAL, 0, 0, 0, 0, 0, 0, 0, 0);

        Run five = new Run(5);
        five.ask(4, 8, 0, 3);
        five.dueNode(4, Steps.RECOVERING, 0, 0, 0, 0, 0, 0, 0, 2);
        five.pass(0, 4, Steps.TELL);
        five.dueNode(4, Steps.RECOVERING, 0, 0, 0, 0, 0, 0, 0, 2);
        five.pass(4, 1, Steps.ASK);
        five.pass(1, 4, Steps.TELL);
        five.dueNode(4, Steps.NORMAL, 0, 0, 0, 0, 0, 0, 0, 0);
    }

    /** Node 0 is the FIRST of VIEW 0, which counts no more as soon as one tells of VIEW 1. */
    private static void greatestView() {
        Sentence.is(TERMS, "v being the greatest VIEW of these:");
        Run run = new Run(5);
        run.lead(1, 1, 2, 3);
        run.pass(1, 2, Steps.BEGIN);
        run.ask(4, 8, 0, 2);
        run.dueNode(0, Steps.NORMAL, 0);
        run.dueNode(2, Steps.NORMAL, 1);
        run.pass(1, 3, Steps.BEGIN);
        run.pass(4, 3, Steps.ASK);
        Due.due("three tales, of views 0, 1, 1", run.pass(3, 4, Steps.TELL), 1);
        run.dueNode(4, Steps.RECOVERING, 0, 0, 0, 0, 0, 0, 0, 3);
        run.pass(4, 1, Steps.ASK);
        Due.due("the first of view 1", run.pass(1, 4, Steps.TELL), 1);
        run.dueNode(4, Steps.NORMAL, 1, 1, 0, 0, 0, 0, 0, 0);
    }

    /** Node 1 is the FIRST of VIEW 1, but tells of VIEW 0 at first. */
    private static void ofTheFirst() {
        Sentence.is(TERMS, "if one is of the FIRST of v, with VIEW v:");
        Run run = new Run(3);
        run.ask(2, 5, 1);
        run.lead(1, 0, 1);
        run.pass(1, 0, Steps.BEGIN);
        run.pass(2, 0, Steps.ASK);
        run.dueNode(0, Steps.NORMAL, 1);
        Due.due("the first with a lower view", run.pass(0, 2, Steps.TELL), 1);
        run.dueNode(2, Steps.RECOVERING, 0, 0, 0, 0, 0, 0, 0, 2);
        run.pass(2, 1, Steps.ASK);
        Due.due("the first with that view", run.pass(1, 2, Steps.TELL), 1);
        run.dueNode(2, Steps.NORMAL, 1, 1, 0, 0, 0, 0, 0, 0);

        // node 0 asks in view 0, of which it is the first itself: no tale is enough
        Run itself = new Run(5);
        itself.ask(0, 5, 1, 2, 3, 4);
        itself.dueNode(0, Steps.RECOVERING, 0, 0, 0, 0, 0, 0, 0, 4);
        // in view 6 the first is node 1
        Run round = new Run(5);
        round.lead(6, 1, 2, 3);
        round.pass(1, 2, Steps.BEGIN);
        round.pass(1, 3, Steps.BEGIN);
        round.ask(0, 5, 2, 3, 4);
        round.dueNode(0, Steps.RECOVERING, 0, 0, 0, 0, 0, 0, 0, 3);
        round.pass(0, 1, Steps.ASK);
        round.pass(1, 0, Steps.TELL);
        round.dueNode(0, Steps.NORMAL, 6, 6);
    }

    /** The FIRST's tale is an old one, and shorter and less sure than the other's. */
    private static void asTheTale() {
        Sentence.is(TERMS, "its LOG is that, SURE the tale's, VIEW and LAST VIEW v, NORMAL.");
        Run run = new Run(3);
        run.set(0, 1);
        run.spread(0, 1);
        run.set(0, 2);
        int[] old = run.ask(2, 5, 0);
        run.set(0, 3);
        run.spread(0, 1);
        run.spread(0, 1);
        run.dueNode(1, Steps.NORMAL, 0, 0, 3, 3);
        run.pass(2, 1, Steps.ASK);
        run.dueLetter(old[0], 0, 2, Steps.TELL, 0, 2, 1, 5, 0);
        int at = run.count(0);
        run.dueLetter(at - 1, 1, 2, Steps.TELL, 0, 3, 3, 5, 0);
        run.deliver(at - 1);
        run.dueNode(2, Steps.NORMAL, 0, 0, 2, 1, 0, 0, 0, 0);
        run.dueValues(2, 1, 2);
        run.duePosted(at);

        Run full = new Run(3);
        full.lead(1, 0, 1);
        full.pass(1, 0, Steps.BEGIN);
        for (int v = 1; v <= 16; v++) {
            full.set(1, v);
        }
        full.spread(1, 0);
        full.ask(2, 1, 0, 1);
        full.dueNode(2, Steps.NORMAL, 1, 1, 16, 16);
        Due.due("the last entry", full.entry(2, 16, 5), 16);
        Due.due("the last node's register", full.register(2, 0), 16);
    }
}
