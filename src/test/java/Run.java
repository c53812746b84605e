import java.util.ArrayList;
import java.util.List;
import java.util.Random;
import java.util.function.ToIntFunction;

/** An object under test that keeps the acts it was told, so that the same state can be made again. */
final class Run {
    /** What later calls answer is free, so no test may lean on it. */
    static final int MOST_CALLS = 512;

    final int size, f;
    private final ViewStamps x;
    private final List<ToIntFunction<ViewStamps>> acts = new ArrayList<>();
    private final List<int[]> seen = new ArrayList<>();
    private int calls = 0;

    Run(int n) {
        x = new ViewStamps(n);
        size = n == 5 ? 5 : 3;
        f = n == 5 ? 2 : 1;
    }

    /** A new object in the same state. */
    Run again() {
        Run other = new Run(size);
        for (ToIntFunction<ViewStamps> act : acts) {
            other.act(act);
        }
        return other;
    }

    /** Calls that must answer so, and change nothing. */
    Still still(long want) {
        return new Still(this, want);
    }

    /** The object itself, for one call. */
    ViewStamps object() {
        calls++;
        if (calls == MOST_CALLS + 1) {
            Due.dueTrue("the test keeps to " + MOST_CALLS + " calls", false);
        }
        return x;
    }

    // ---- acts

    private int act(ToIntFunction<ViewStamps> act) {
        acts.add(act);
        return act.applyAsInt(object());
    }

    int request(int node, int client, int number, int kind, int a, int b, int v) {
        return act(y -> y.request(node, client, number, kind, a, b, v));
    }

    int deliver(int letter) {
        return act(y -> y.deliver(letter));
    }

    int drop(int letter) {
        return act(y -> y.drop(letter));
    }

    int cut(int i, int j, boolean on) {
        return act(y -> y.cut(i, j, on));
    }

    int timeout(int node) {
        return act(y -> y.timeout(node));
    }

    int resend(int node) {
        return act(y -> y.resend(node));
    }

    int crash(int node) {
        return act(y -> y.crash(node));
    }

    int recover(int node, int nonce) {
        return act(y -> y.recover(node, nonce));
    }

    // ---- asked

    int node(int node, int what) {
        return object().node(node, what);
    }

    int entry(int node, int i, int what) {
        return object().entry(node, i, what);
    }

    int register(int node, int r) {
        return object().register(node, r);
    }

    int known(int node, int other) {
        return object().known(node, other);
    }

    int letter(int letter, int what) {
        return object().letter(letter, what);
    }

    int count(int what) {
        return object().count(what);
    }

    int unlike() {
        return object().unlike();
    }

    long digest() {
        return object().digest();
    }

    // ---- steps of several calls

    /** A SET of register 0 by client 0, with the next number. */
    int set(int node, int v) {
        return request(node, 0, node(node, 3) + 1, 0, 0, 0, v);
    }

    /** The latest LETTER of that sort between two NODES, or -1. */
    int find(int from, int to, int sort) {
        int end = count(0);
        for (int i = seen.size(); i < end; i++) {
            seen.add(new int[] {letter(i, 0), letter(i, 1), letter(i, 2)});
        }
        for (int i = end - 1; i >= 0; i--) {
            int[] each = seen.get(i);
            if (each[0] == from && each[1] == to && each[2] == sort) {
                return i;
            }
        }
        return -1;
    }

    /** As find, of a LETTER that must be there. */
    int letterOf(int from, int to, int sort) {
        int letter = find(from, to, sort);
        Due.dueTrue("a letter of sort " + sort + " from " + from + " to " + to + " is there", letter >= 0);
        return letter;
    }

    /** Delivers the latest LETTER of that sort between two NODES. */
    int pass(int from, int to, int sort) {
        return deliver(letterOf(from, to, sort));
    }

    /** A FIRST tells others all that it has, and they say that they have it. */
    void spread(int first, int... others) {
        resend(first);
        for (int other : others) {
            pass(first, other, Steps.PREPARE);
            pass(other, first, Steps.OK);
        }
    }

    /** All of these, F + 1 or more, change to that VIEW and vote; the first named waits no more. No VOTE is delivered. */
    void vote(int view, int... voters) {
        int starter = voters[0];
        while (node(starter, 1) < view) {
            timeout(starter);
        }
        for (int to : voters) {
            if (to != starter) {
                pass(starter, to, Steps.CHANGE);
            }
        }
        for (int to : voters) {
            for (int from : voters) {
                if (from != to && from != starter) {
                    pass(from, to, Steps.CHANGE);
                }
            }
        }
    }

    /** The FIRST of that VIEW, one of these F + 1, leads by their votes. */
    void lead(int view, int... voters) {
        int first = view % size;
        vote(view, voters);
        for (int voter : voters) {
            if (voter != first) {
                pass(voter, first, Steps.VOTE);
            }
        }
        dueNode(first, Steps.NORMAL, view, view);
    }

    /** A crashed NODE asks these, and is told; it recovers if they are enough. The LETTERS that told. */
    int[] ask(int node, int nonce, int... others) {
        crash(node);
        recover(node, nonce);
        int[] tells = new int[others.length];
        for (int i = 0; i < others.length; i++) {
            pass(node, others[i], Steps.ASK);
            tells[i] = letterOf(others[i], node, Steps.TELL);
        }
        deliverAll(tells);
        return tells;
    }

    /** A NODE crashes and recovers by what it was told before, so that it forgets what came since. */
    void forget(int node, int nonce, int... tells) {
        crash(node);
        recover(node, nonce);
        deliverAll(tells);
        Due.due("it recovers by old tales", node(node, 0), Steps.NORMAL);
    }

    void deliverAll(int... letters) {
        for (int letter : letters) {
            deliver(letter);
        }
    }

    // ---- what is due

    void dueNode(int node, int... want) {
        for (int what = 0; what < want.length; what++) {
            Due.due("node(" + node + ", " + what + ")", node(node, what), want[what]);
        }
    }

    void dueLetter(int letter, int... want) {
        for (int what = 0; what < want.length; what++) {
            Due.due("letter(" + letter + ", " + what + ")", letter(letter, what), want[what]);
        }
    }

    /** These LETTERS, and no more, were posted since there were that many. */
    void duePosted(int before, int[]... want) {
        Due.due("letters posted", count(0) - before, want.length);
        for (int i = 0; i < want.length; i++) {
            dueLetter(before + i, want[i]);
        }
    }

    /** The values of the ENTRIES of a NODE's LOG, and no ENTRY more. */
    void dueValues(int node, int... want) {
        Due.due("entries of node " + node, node(node, 3), want.length);
        for (int i = 0; i < want.length; i++) {
            Due.due("value of entry " + (i + 1) + " of node " + node, entry(node, i + 1, 5), want[i]);
        }
    }

    // ---- what shows of a state

    /** All that can be asked, and then what comes of it, as far as the calls that are left show it. */
    List<Long> trace() {
        List<Long> shown = new ArrayList<>();
        showAsked(shown);
        showLines(shown);
        int letters = count(0), steps = (MOST_CALLS - calls) / 3;
        int delivered = Math.min(letters, steps / 2);
        for (int i = letters - delivered; i < letters; i++) {
            show(shown, deliver(i));
        }
        Random random = new Random(letters);
        for (int step = delivered; step < steps; step++) {
            show(shown, anyAct(random));
        }
        return shown;
    }

    private void showAsked(List<Long> shown) {
        shown.add(digest());
        shown.add((long) unlike());
        for (int what = 0; what <= 4; what++) {
            shown.add((long) count(what));
        }
        for (int i = 0; i < size; i++) {
            for (int j = 0; j < size; j++) {
                shown.add((long) known(i, j));
            }
        }
    }

    /** Mends them all, too, so that nothing holds up what comes later. */
    private void showLines(List<Long> shown) {
        for (int i = 0; i < size; i++) {
            for (int j = i + 1; j < size; j++) {
                shown.add((long) cut(i, j, false));
            }
        }
    }

    private void show(List<Long> shown, int answer) {
        shown.add((long) answer);
        shown.add(digest());
    }

    private int anyAct(Random random) {
        int node = random.nextInt(size);
        switch (random.nextInt(12)) {
            case 0: return resend(node);
            case 1: return timeout(node);
            case 2: return request(node, random.nextInt(4), 1 + random.nextInt(1000000), 0, 0, 0, 1);
            case 3: return random.nextInt(8) == 0 ? crash(node) : recover(node, random.nextInt(2));
            default: return deliver(random.nextInt(1 + count(0)));
        }
    }
}
