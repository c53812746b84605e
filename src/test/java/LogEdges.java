/** The document's third part: having as, and the letters PREPARE, BEGIN and OK. */
final class LogEdges {
    private static final String TERMS = "Terms";

    private LogEdges() {
    }

    static void test() {
        havingAsLog();
        havingAsView();
        havingAsSure();
        havingAsSureWithinTheLog();
        havingAsOk();
        nothingWhenDown();
        nothingWhenAbove();
        belowOrChanging();
        moreEntries();
        sureInTheSameView();
        okCount();
        okAtTheFirst();
        okGreatest();
        okInThisView();
        okOfEnoughOthers();
        okWithinTheLog();
        okAboveSure();
    }

    /** Node 1 leads VIEW 1 of three with that many ENTRIES of client 3, of values 51, 52 ..: its last LETTER to node 0. */
    private static int tellNodeZero(Run run, int entries) {
        run.lead(1, 1, 2);
        for (int i = 1; i <= entries; i++) {
            run.request(1, 3, i, 0, 0, 0, 50 + i);
        }
        return run.letterOf(1, 0, entries == 0 ? Steps.BEGIN : Steps.PREPARE);
    }

    private static int[] valuesFrom(int first, int many) {
        int[] values = new int[many];
        for (int i = 0; i < many; i++) {
            values[i] = first + i;
        }
        return values;
    }

    private static void havingAsLog() {
        Sentence.is(TERMS, "3 WHAT NODES DO. HAVING AS: the LOG is the LETTER's;");
        for (int entries : new int[] {0, 1, 2, 3, 16}) {
            Run run = new Run(3);
            run.set(0, 11);
            run.set(0, 12);
            Due.due("deliver", run.deliver(tellNodeZero(run, entries)), 1);
            run.dueValues(0, valuesFrom(51, entries));
        }
    }

    private static void havingAsView() {
        Sentence.is(TERMS, "VIEW and LAST VIEW are its VIEW; STATUS NORMAL;");
        Run run = new Run(3);
        int begin = tellNodeZero(run, 0);
        run.dueNode(0, Steps.NORMAL, 0, 0);
        run.deliver(begin);
        run.dueNode(0, Steps.NORMAL, 1, 1, 0, 0, 0, 0, 0, 0);

        Run later = new Run(3);
        later.lead(4, 1, 2);
        later.timeout(0);
        later.timeout(0);
        later.dueNode(0, Steps.CHANGING, 2, 0);
        later.pass(1, 0, Steps.BEGIN);
        later.dueNode(0, Steps.NORMAL, 4, 4, 0, 0, 0, 0, 0, 0);
        later.pass(1, 2, Steps.BEGIN);
        later.dueNode(2, Steps.NORMAL, 4, 4, 0, 0, 0, 0, 0, 0);
    }

    private static void havingAsSure() {
        Sentence.is(TERMS, "SURE is the greater of its own and the LETTER's,");
        Run own = new Run(3);
        own.set(0, 1);
        own.spread(0, 1);
        own.lead(1, 1, 2);
        int begin = own.letterOf(1, 0, Steps.BEGIN);
        own.dueLetter(begin, 1, 0, Steps.BEGIN, 1, 1, 0);
        own.deliver(begin);
        own.dueNode(0, Steps.NORMAL, 1, 1, 1, 1);

        Run letters = new Run(3);
        letters.set(0, 1);
        letters.spread(0, 1);
        letters.spread(0, 2);
        letters.set(0, 2);
        letters.spread(0, 1);
        letters.dueNode(0, Steps.NORMAL, 0, 0, 2, 2);
        letters.dueNode(2, Steps.NORMAL, 0, 0, 1, 1);
        letters.lead(1, 0, 1);
        letters.pass(1, 2, Steps.BEGIN);
        letters.dueNode(2, Steps.NORMAL, 1, 1, 2, 2);
        letters.pass(1, 0, Steps.BEGIN);
        letters.dueNode(0, Steps.NORMAL, 1, 1, 2, 2);
    }

    /** Node 0 is sure of two ENTRIES that node 1 forgot. */
    private static Run forgotten() {
        Run run = new Run(3);
        int[] tells = run.ask(1, 7, 0, 2);
        run.set(0, 1);
        run.set(0, 2);
        run.spread(0, 1);
        run.forget(1, 7, tells);
        run.dueNode(0, Steps.NORMAL, 0, 0, 2, 2);
        run.dueNode(1, Steps.NORMAL, 0, 0, 0, 0);
        return run;
    }

    private static void havingAsSureWithinTheLog() {
        Sentence.is(TERMS, "but not above how many ENTRIES the LOG has;");
        for (int entries = 0; entries <= 3; entries++) {
            Run run = forgotten();
            run.deliver(tellNodeZero(run, entries));
            run.dueNode(0, Steps.NORMAL, 1, 1, entries, Math.min(2, entries));
        }
    }

    private static void havingAsOk() {
        Sentence.is(TERMS, "then OK is posted to the FIRST.");
        for (int entries : new int[] {0, 1, 16}) {
            Run run = new Run(3);
            int letter = tellNodeZero(run, entries), at = run.count(0);
            run.deliver(letter);
            run.duePosted(at, new int[] {0, 1, Steps.OK, 1, 0, 0, entries, 0});
        }
        Run five = new Run(5);
        five.lead(3, 2, 3, 4);
        int at = five.letterOf(3, 4, Steps.BEGIN) + 1;
        five.pass(3, 1, Steps.BEGIN);
        five.duePosted(at, new int[] {1, 3, Steps.OK, 3, 0, 0, 0, 0});
    }

    // ---- which letters do nothing

    private static void nothingWhenDown() {
        Sentence.is(TERMS, "A LETTER of SORT 1 to 5 does nothing at a NODE that is RECOVERING or CRASHED,");
        Run run = new Run(3);
        run.set(0, 1);
        run.lead(1, 0, 1);
        run.pass(1, 2, Steps.BEGIN);
        run.lead(2, 0, 2);
        int[] letters = {run.letterOf(0, 1, Steps.PREPARE), run.letterOf(2, 1, Steps.OK),
            run.letterOf(0, 1, Steps.CHANGE), run.letterOf(0, 1, Steps.VOTE), run.letterOf(2, 1, Steps.BEGIN)};
        run.crash(1);
        for (int i = 0; i < 5; i++) {
            Due.due("sort", run.letter(letters[i], 2), i + 1);
            run.still(0).deliver(letters[i]);
        }
        run.recover(1, 0);
        for (int letter : letters) {
            run.still(0).deliver(letter);
        }
    }

    /** The LETTER's VIEW is 1: it does something at a NODE of VIEW 0, and of 1 that is CHANGING, and nothing at 2. */
    private static void dueUpToViewOne(Run run, int letter) {
        int node = run.letter(letter, 1);
        Due.due("view of the letter", run.letter(letter, 3), 1);
        run.dueNode(node, Steps.NORMAL, 0);
        Due.due("one below", run.again().deliver(letter), 1);
        run.timeout(node);
        Due.due("the same", run.again().deliver(letter), 1);
        run.timeout(node);
        run.still(0).deliver(letter);
    }

    private static void nothingWhenAbove() {
        Sentence.is(TERMS, "or whose VIEW is above the LETTER's.");
        Run run = new Run(3);
        run.set(0, 1);
        run.resend(1);
        int prepare = run.letterOf(0, 1, Steps.PREPARE), ok = run.letterOf(1, 0, Steps.OK);
        Due.due("a PREPARE of the same view", run.again().deliver(prepare), 1);
        Due.due("an OK of the same view", run.again().deliver(ok), 1);
        run.timeout(0);
        run.timeout(1);
        run.still(0).deliver(prepare);
        run.still(0).deliver(ok);

        Run base = new Run(3);
        tellNodeZero(base, 1);
        for (int sort : new int[] {Steps.PREPARE, Steps.CHANGE, Steps.BEGIN}) {
            Run each = base.again();
            dueUpToViewOne(each, each.letterOf(1, 0, sort));
        }
        Run vote = new Run(3);
        vote.vote(1, 0, 2);
        dueUpToViewOne(vote, vote.letterOf(2, 1, Steps.VOTE));
    }

    // ---- PREPARE and BEGIN

    /** A shorter LOG is taken, so it is HAVING AS, not what a NODE does that is NORMAL in that VIEW. */
    private static void dueHavingAs(Run run, int node, int letter, int view) {
        Due.dueTrue("its log is longer", run.node(node, 3) > run.letter(letter, 4));
        Due.due("deliver", run.deliver(letter), 1);
        run.dueNode(node, Steps.NORMAL, view, view, run.letter(letter, 4));
    }

    private static void belowOrChanging() {
        Sentence.is(TERMS, "1 PREPARE (LOG, SURE), and 5 BEGIN (LOG, SURE): if the NODE's VIEW is below,"
            + " or it is CHANGING: HAVING AS.");
        for (int sort : new int[] {Steps.PREPARE, Steps.BEGIN}) {
            Run run = new Run(3);
            run.set(0, 1);
            run.set(0, 2);
            run.lead(4, 1, 2);
            run.set(1, 3);
            int letter = run.letterOf(1, 0, sort);
            for (int view = 0; view <= 4; view++) {
                Due.due("its view", run.node(0, 1), view);
                Run each = run.again();
                dueHavingAs(each, 0, letter, 4);
                run.timeout(0);
            }
            run.still(0).deliver(letter);
        }
    }

    /** Node 1 leads VIEW 1 twice, as it forgets the first time; node 2 has the ENTRIES 1, 2 .. of that time. */
    static Run leadsTwice(int entries) {
        Run run = new Run(3);
        int[] tells = run.ask(1, 9, 0, 2);
        run.lead(1, 1, 2);
        int change = run.letterOf(2, 1, Steps.CHANGE), vote = run.letterOf(2, 1, Steps.VOTE);
        for (int v = 1; v <= entries; v++) {
            run.set(1, v);
        }
        run.pass(1, 2, entries == 0 ? Steps.BEGIN : Steps.PREPARE);
        run.forget(1, 9, tells);
        run.deliver(change);
        run.deliver(vote);
        run.dueNode(1, Steps.NORMAL, 1, 1, 0, 0);
        run.dueNode(2, Steps.NORMAL, 1, 1, entries, 0);
        return run;
    }

    private static void moreEntries() {
        Sentence.is(TERMS, "Else (NORMAL, that VIEW), if it is not the FIRST:"
            + " if the LETTER's LOG has more ENTRIES, its own is that;");
        Run run = leadsTwice(2);
        Due.due("a BEGIN with two fewer", run.pass(1, 2, Steps.BEGIN), 1);
        run.dueValues(2, 1, 2);
        run.set(1, 91);
        Due.due("a PREPARE with one fewer", run.pass(1, 2, Steps.PREPARE), 1);
        run.dueValues(2, 1, 2);
        run.set(1, 92);
        Due.due("a PREPARE with as many", run.pass(1, 2, Steps.PREPARE), 1);
        run.dueValues(2, 1, 2);
        run.set(1, 93);
        Due.due("a PREPARE with one more", run.pass(1, 2, Steps.PREPARE), 1);
        run.dueValues(2, 91, 92, 93);
        run.dueNode(2, Steps.NORMAL, 1, 1, 3, 0);
    }

    private static void sureInTheSameView() {
        Sentence.is(TERMS, "SURE is the greater one, as told; OK is posted.");
        Run run = new Run(3);
        run.set(0, 1);
        int none = run.letterOf(0, 1, Steps.PREPARE);
        run.spread(0, 1);
        run.resend(0);
        int one = run.letterOf(0, 1, Steps.PREPARE);
        run.set(0, 2);
        run.pass(0, 1, Steps.PREPARE);
        run.pass(1, 0, Steps.OK);
        run.resend(0);
        int two = run.letterOf(0, 1, Steps.PREPARE);
        run.dueNode(1, Steps.NORMAL, 0, 0, 2, 1);
        int[] letters = {none, one, two, two, one, none}, sure = {1, 1, 2, 2, 2, 2};
        for (int i = 0; i < letters.length; i++) {
            int at = run.count(0);
            Due.due("deliver", run.deliver(letters[i]), 1);
            run.dueNode(1, Steps.NORMAL, 0, 0, 2, sure[i]);
            run.duePosted(at, new int[] {1, 0, Steps.OK, 0, 0, 0, 2, 0});
        }
        run.deliver(none + 1);
        run.dueNode(2, Steps.NORMAL, 0, 0, 1, 0);
        run.deliver(two + 1);
        run.dueNode(2, Steps.NORMAL, 0, 0, 2, 2);
    }

    // ---- OK

    private static void okCount() {
        Sentence.is(TERMS, "2 OK (COUNT: how many ENTRIES its LOG has):");
        Run run = new Run(3);
        for (int i = 0; i <= 16; i++) {
            int at = run.count(0);
            run.resend(1);
            run.duePosted(at, new int[] {1, 0, Steps.OK, 0, 0, 0, i, 0});
            Due.due("deliver", run.deliver(at), 1);
            Due.due("known", run.known(0, 1), i);
            if (i < 16) {
                run.set(0, i);
                run.deliver(at + 1);
            }
        }
    }

    private static void okAtTheFirst() {
        Sentence.is(TERMS, "at the FIRST of that VIEW, NORMAL in it:");
        Run run = new Run(3);
        int[] tells = run.ask(1, 9, 0, 2);
        run.lead(1, 1, 2);
        int change = run.letterOf(2, 1, Steps.CHANGE), vote = run.letterOf(2, 1, Steps.VOTE);
        run.set(1, 1);
        run.pass(1, 2, Steps.PREPARE);
        int ok = run.letterOf(2, 1, Steps.OK);
        Due.due("normal in it", run.again().deliver(ok), 1);
        run.forget(1, 9, tells);
        run.dueNode(1, Steps.NORMAL, 0);
        run.still(0).deliver(ok);
        run.deliver(change);
        run.dueNode(1, Steps.CHANGING, 1);
        run.still(0).deliver(ok);
        run.deliver(vote);
        run.dueNode(1, Steps.NORMAL, 1);
        Due.due("normal in it once more", run.deliver(ok), 1);
        Due.due("known", run.known(1, 2), 1);
    }

    private static void okGreatest() {
        Sentence.is(TERMS, "it knows that the sender has so many (the greatest that it was told in this VIEW).");
        Run run = new Run(5);
        for (int v = 1; v <= 3; v++) {
            run.set(0, v);
            run.pass(0, 1, Steps.PREPARE);
        }
        int last = run.letterOf(1, 0, Steps.OK);
        run.pass(0, 4, Steps.PREPARE);
        int[][] told = {{last - 5, 2}, {last - 10, 2}, {last - 5, 2}, {last, 3}, {last - 5, 3}};
        for (int[] each : told) {
            Due.due("deliver", run.deliver(each[0]), 1);
            Due.due("known", run.known(0, 1), each[1]);
            Due.due("nothing of the last node", run.known(0, 4), 0);
        }
        run.pass(4, 0, Steps.OK);
        Due.due("known of the last node", run.known(0, 4), 3);
        Due.due("known of another", run.known(0, 2), 0);
    }

    private static void okInThisView() {
        Sentence.is(TERMS, "(the greatest that it was told in this VIEW)");
        Run run = new Run(3);
        run.set(0, 1);
        run.spread(0, 1);
        int old = run.letterOf(1, 0, Steps.OK);
        Due.due("known in view 0", run.known(0, 1), 1);
        run.lead(3, 0, 1);
        Due.due("known in view 3", run.known(0, 1), 0);
        run.still(0).deliver(old);
        run.pass(0, 1, Steps.BEGIN);
        run.pass(1, 0, Steps.OK);
        Due.due("known in view 3", run.known(0, 1), 1);
        Due.due("known of the other", run.known(0, 2), 0);
    }

    /** Five NODES, five ENTRIES: what each of the others says that it has, and what is sure then. */
    private static void okOfEnoughOthers() {
        Sentence.is(TERMS, "Then SURE is the greatest number that F other NODES have at least");
        int[][] cases = {{5, 0, 0, 0, 0}, {5, 1, 0, 0, 1}, {5, 4, 0, 0, 4}, {4, 5, 0, 0, 4}, {5, 5, 0, 0, 5},
            {1, 2, 3, 4, 3}, {4, 3, 2, 1, 3}, {2, 2, 5, 1, 2}, {0, 0, 0, 5, 0}, {0, 0, 1, 1, 1}, {3, 0, 0, 3, 3}};
        for (int[] each : cases) {
            Run run = new Run(5);
            for (int v = 1; v <= 5; v++) {
                run.set(0, v);
            }
            for (int other = 1; other <= 4; other++) {
                if (each[other - 1] > 0) {
                    run.deliver(4 * (each[other - 1] - 1) + other - 1);
                    run.pass(other, 0, Steps.OK);
                }
            }
            Due.due("sure", run.node(0, 4), each[4]);
        }
        Run three = new Run(3);
        three.set(0, 1);
        three.set(0, 2);
        three.deliver(1);
        three.pass(2, 0, Steps.OK);
        Due.due("sure of three", three.node(0, 4), 1);
        three.deliver(2);
        three.pass(1, 0, Steps.OK);
        Due.due("sure of three", three.node(0, 4), 2);
    }

    /** Node 2 says that it has two, of the first time that node 1 led. */
    private static void okWithinTheLog() {
        Sentence.is(TERMS, "(not above how many ENTRIES its own LOG has),");
        for (int entries = 0; entries <= 3; entries++) {
            Run run = leadsTwice(2);
            for (int v = 1; v <= entries; v++) {
                run.set(1, v);
            }
            Due.due("deliver", run.pass(2, 1, Steps.OK), 1);
            Due.due("known", run.known(1, 2), 2);
            run.dueNode(1, Steps.NORMAL, 1, 1, entries, Math.min(entries, 2));
        }
    }

    private static void okAboveSure() {
        Sentence.is(TERMS, "if that is above SURE.");
        Run run = new Run(5);
        run.set(0, 1);
        run.spread(0, 1, 2);
        run.set(0, 2);
        run.spread(0, 1, 2);
        run.lead(1, 0, 1, 2);
        run.set(1, 3);
        int begin = run.letterOf(1, 3, Steps.BEGIN);
        run.dueNode(1, Steps.NORMAL, 1, 1, 3, 2);
        run.deliver(begin);
        Due.due("one other has two", run.pass(3, 1, Steps.OK), 1);
        run.dueNode(1, Steps.NORMAL, 1, 1, 3, 2);
        run.deliver(begin + 1);
        Due.due("two others have two", run.pass(4, 1, Steps.OK), 1);
        run.dueNode(1, Steps.NORMAL, 1, 1, 3, 2);
        run.spread(1, 3);
        run.dueNode(1, Steps.NORMAL, 1, 1, 3, 2);
        run.spread(1, 4);
        run.dueNode(1, Steps.NORMAL, 1, 1, 3, 3);
    }
}
