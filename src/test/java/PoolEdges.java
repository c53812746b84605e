/** The document's second part: the pool. */
final class PoolEdges {
    private static final String TERMS = "Terms";
    private static final String LOST = "A LETTER that is posted when THE POOL is full is lost.";
    private static final int MOST = 240;

    private PoolEdges() {
    }

    static void test() {
        numbersAndMost();
        asTold();
        again();
        lostOneByOne();
        lostFromTheMiddle();
        droppedOnesTakeRoom();
        lostPrepare();
        lostOk();
        lostChangeAndVote();
        lostBegin();
        lostAskAndTell();
        toAll();
    }

    /** A NODE that is NORMAL, and not the FIRST, posts OKs until the pool holds that many. */
    private static void fill(Run run, int node, int upTo) {
        for (int letters = run.count(0); letters < upTo; letters++) {
            run.resend(node);
        }
        Due.due("letters", run.count(0), upTo);
        Due.due("lost", run.count(2), 0);
    }

    private static void dueFull(Run run, int lost) {
        Due.due("letters", run.count(0), MOST);
        Due.due("lost", run.count(2), lost);
    }

    private static void numbersAndMost() {
        Sentence.is(TERMS, "2 THE POOL has LETTERS, numbered from 0 as they were posted (240 at most in all).");
        Run run = new Run(3);
        run.still(Steps.BAD).letter(0, 0);
        run.resend(2);
        run.dueLetter(0, 2, 0, Steps.OK);
        run.still(Steps.BAD).letter(-1, 0);
        run.still(Steps.BAD).letter(1, 0);
        run.resend(1);
        run.dueLetter(0, 2, 0, Steps.OK);
        run.dueLetter(1, 1, 0, Steps.OK);
        fill(run, 2, MOST - 1);
        run.still(Steps.BAD).letter(MOST - 1, 0);
        run.still(Steps.BAD).deliver(MOST - 1);
        run.still(Steps.BAD).drop(MOST - 1);
        run.resend(1);
        dueFull(run, 0);
        run.dueLetter(MOST - 2, 2, 0, Steps.OK);
        run.dueLetter(MOST - 1, 1, 0, Steps.OK);
        Due.due("the last letter is delivered", run.deliver(MOST - 1), 1);
        run.resend(2);
        dueFull(run, 1);
        run.dueLetter(MOST - 1, 1, 0, Steps.OK);
        run.still(Steps.BAD).letter(MOST, 0);
        run.still(Steps.BAD).deliver(MOST);
        run.still(Steps.BAD).drop(MOST);
    }

    private static void asTold() {
        Sentence.is(TERMS, "Each is from a NODE to another one, of a SORT, with a VIEW, and as told: a LOG, SURE, a COUNT.");
        Run run = new Run(3);
        run.set(0, 1);
        run.spread(0, 1);
        run.set(0, 2);
        run.dueLetter(run.letterOf(0, 2, Steps.PREPARE), 0, 2, Steps.PREPARE, 0, 2, 1, 0, 0);
        run.dueLetter(run.letterOf(1, 0, Steps.OK), 1, 0, Steps.OK, 0, 0, 0, 1, 0);
        run.lead(1, 0, 1);
        run.dueLetter(run.letterOf(0, 1, Steps.CHANGE), 0, 1, Steps.CHANGE, 1, 0, 0, 0, 0);
        run.dueLetter(run.letterOf(0, 1, Steps.VOTE), 0, 1, Steps.VOTE, 1, 2, 1, 0, 0);
        run.dueLetter(run.letterOf(1, 0, Steps.BEGIN), 1, 0, Steps.BEGIN, 1, 2, 1, 0, 0);
        run.ask(2, 77, 1);
        run.dueLetter(run.letterOf(2, 1, Steps.ASK), 2, 1, Steps.ASK, 0, 0, 0, 77, 0);
        run.dueLetter(run.letterOf(1, 2, Steps.TELL), 1, 2, Steps.TELL, 1, 2, 1, 77, 0);
        for (int i = run.count(0) - 1; i >= 0; i--) {
            Due.dueTrue("letter " + i + " is to another", run.letter(i, 0) != run.letter(i, 1));
        }
        Due.due("a letter keeps the log that it was posted with", run.letter(0, 4), 1);
    }

    private static void again() {
        Sentence.is(TERMS, "It can be DELIVERED again and again, as long as it is not DROPPED.");
        Run run = new Run(3);
        run.set(0, 1);
        for (int time = 1; time <= 3; time++) {
            Due.due("time " + time, run.deliver(0), 1);
            Due.due("an OK each time", run.count(0), 2 + time);
        }
        run.drop(0);
        run.still(Steps.BAD).deliver(0);
        Due.due("the other is not dropped", run.deliver(1), 1);
    }

    private static void lostOneByOne() {
        Sentence.is(TERMS, LOST);
        for (int before = MOST - 5; before <= MOST; before++) {
            Run run = new Run(5);
            fill(run, 4, before);
            int fit = Math.min(4, MOST - before);
            Due.due("request", run.request(0, 1, 1, 0, 2, 0, 3), 1);
            Due.due("letters", run.count(0), before + fit);
            Due.due("lost", run.count(2), 4 - fit);
            for (int i = 0; i < fit; i++) {
                run.dueLetter(before + i, 0, i + 1, Steps.PREPARE);
            }
            run.still(Steps.BAD).letter(before + fit, 0);
        }
    }

    /** Those that fit are those to the least NODES, whoever posts. */
    private static void lostFromTheMiddle() {
        Sentence.is(TERMS, LOST);
        Run run = new Run(5);
        fill(run, 4, MOST - 3);
        Due.due("timeout", run.timeout(2), 1);
        run.dueLetter(MOST - 3, 2, 0, Steps.CHANGE, 1);
        run.dueLetter(MOST - 2, 2, 1, Steps.CHANGE, 1);
        run.dueLetter(MOST - 1, 2, 3, Steps.CHANGE, 1);
        dueFull(run, 1);
    }

    private static void droppedOnesTakeRoom() {
        Sentence.is(TERMS, LOST);
        Run run = new Run(5);
        fill(run, 4, MOST);
        Due.due("drop", run.drop(0), 1);
        Due.due("drop", run.drop(MOST - 1), 1);
        run.resend(1);
        dueFull(run, 1);
        Due.due("dropped", run.count(1), 2);
        run.dueLetter(0, 4, 0, Steps.OK, 0, 0, 0, 0, 1);
    }

    private static void lostPrepare() {
        Sentence.is(TERMS, LOST);
        Run run = new Run(5);
        fill(run, 4, MOST);
        Due.due("request", run.set(0, 1), 1);
        dueFull(run, 4);
        Due.due("the entry is there all the same", run.node(0, 3), 1);
        Due.due("resend", run.resend(0), 4);
        dueFull(run, 8);
    }

    private static void lostOk() {
        Sentence.is(TERMS, LOST);
        Run run = new Run(5);
        run.set(0, 1);
        fill(run, 4, MOST);
        Due.due("a PREPARE is delivered", run.deliver(0), 1);
        run.dueNode(1, Steps.NORMAL, 0, 0, 1);
        dueFull(run, 1);
        Due.due("resend", run.resend(1), 1);
        dueFull(run, 2);
    }

    private static void lostChangeAndVote() {
        Sentence.is(TERMS, LOST);
        Run run = new Run(3);
        run.timeout(0);
        int change = run.letterOf(0, 2, Steps.CHANGE);
        fill(run, 2, MOST);
        Due.due("a CHANGE is delivered", run.deliver(change), 1);
        run.dueNode(2, Steps.CHANGING, 1, 0, 0, 0, 1, 0, 1);
        dueFull(run, 3);
        Due.due("resend of CHANGE and VOTE", run.resend(2), 3);
        dueFull(run, 6);
        run.still(0).deliver(change);
        Due.due("timeout", run.timeout(2), 2);
        dueFull(run, 8);
        run.dueNode(2, Steps.CHANGING, 2, 0, 0, 0, 0, 0, 0);
    }

    /** The FIRST's own VOTE is not in the pool, so it is not lost. */
    private static void lostBegin() {
        Sentence.is(TERMS, LOST);
        Run run = new Run(3);
        run.vote(1, 0, 2);
        int change = run.letterOf(0, 1, Steps.CHANGE), vote = run.letterOf(0, 1, Steps.VOTE);
        fill(run, 1, MOST);
        Due.due("a CHANGE is delivered", run.deliver(change), 1);
        run.dueNode(1, Steps.CHANGING, 1, 0, 0, 0, 1, 1, 1);
        dueFull(run, 2);
        Due.due("a VOTE is delivered", run.deliver(vote), 1);
        run.dueNode(1, Steps.NORMAL, 1, 1);
        dueFull(run, 4);
    }

    private static void lostAskAndTell() {
        Sentence.is(TERMS, LOST);
        Run run = new Run(5);
        run.crash(1);
        run.recover(1, 3);
        fill(run, 4, MOST);
        Due.due("an ASK is delivered", run.deliver(0), 1);
        dueFull(run, 1);
        run.crash(2);
        Due.due("recover", run.recover(2, 4), 1);
        run.dueNode(2, Steps.RECOVERING);
        dueFull(run, 5);
        Due.due("resend", run.resend(2), 4);
        dueFull(run, 9);
    }

    private static void toAll() {
        Sentence.is(TERMS, "Posting to ALL: to each other NODE, by their numbers.");
        for (int n : new int[] {3, 5}) {
            for (int from = 0; from < n; from++) {
                Run run = new Run(n);
                run.timeout(from);
                Due.due("letters", run.count(0), n - 1);
                for (int i = 0; i < n - 1; i++) {
                    run.dueLetter(i, from, i < from ? i : i + 1, Steps.CHANGE, 1);
                }
                run.still(Steps.BAD).letter(n - 1, 0);
            }
        }
    }
}
