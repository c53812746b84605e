import java.util.Random;

/** Runs of random calls, the same each time; every answer is held against the model's. */
public final class RandomRunsTest {
    private static final int RUNS = 1500, CALLS = 512;

    public static void main(String[] args) {
        int elected = 0, recovered = 0, unlike = 0, lost = 0;
        for (int run = 0; run < RUNS; run++) {
            Random random = new Random(run);
            int n = random.nextInt(4) == 0 ? random.nextInt(12) - 3 : random.nextBoolean() ? 3 : 5;
            ViewStamps x = new ViewStamps(n);
            Model m = new Model(n);
            // few crashes, or many; letters at random, or mostly new ones
            int newest = random.nextInt(11), crashes = random.nextInt(3) * 6, timeouts = 4 + random.nextInt(4) * 8;
            int[] weights = {40 + random.nextInt(60), timeouts, crashes, 20, 5 + random.nextInt(30), 6, 6};
            int start = m.n == 3 && random.nextBoolean() ? forget(x, m) : 0;
            for (int call = start; call < CALLS; call++) {
                act(random, x, m, weights, newest);
                ask(random, x, m);
                unlike += m.unlike() >= 0 ? 1 : 0;
                if (call % 16 == 0 || call == CALLS - 1) {
                    Due.due("run " + run + ", call " + call + ": digest()", x.digest(), m.digest());
                }
            }
            for (int i = 0; i < m.n; i++) {
                elected += m.nodes.get(i).lastView > 0 ? 1 : 0;
            }
            for (Model.L l : m.pool) {
                recovered += l.sort == 7 ? 1 : 0;
            }
            lost += m.lost > 0 ? 1 : 0;
        }
        Due.dueTrue("the runs reach view changes, tales, unlike nodes and full pools", 
            elected > 100 && recovered > 100 && unlike > 10 && lost > 100);
        System.out.println("nodes in later views " + elected + ", tells " + recovered + ", unlike " + unlike
            + ", full pools " + lost);
        Due.end();
    }

    /** Node 1 crashes, and what it is told then it is told anew later: so what stood is lost, and node 0 alone has it. How many calls. */
    private static int forget(ViewStamps x, Model m) {
        for (int time = 0; time < 2; time++) {
            Due.due("crash(1)", x.crash(1), m.crash(1));
            Due.due("recover(1, 0)", x.recover(1, 0), m.recover(1, 0));
            for (int letter = time * 2; letter < 4; letter++) {
                Due.due("deliver(" + letter + ")", x.deliver(letter), m.deliver(letter));
            }
            if (time == 0) {
                Due.due("request", x.request(0, 0, 1, 0, 0, 0, 1), m.request(0, 0, 1, 0, 0, 0, 1));
                Due.due("deliver(4)", x.deliver(4), m.deliver(4));
                Due.due("deliver(6)", x.deliver(6), m.deliver(6));
            }
        }
        Due.due("sure", x.node(0, 4), 1);
        Due.due("lost", x.node(1, 3), 0);
        Due.due("cut(0, 1, true)", x.cut(0, 1, true), m.cut(0, 1, true));
        Due.due("cut(0, 2, true)", x.cut(0, 2, true), m.cut(0, 2, true));
        return 17;
    }

    /** Mostly a number from 0 to below the end, now and then another. */
    private static int pick(Random random, int end) {
        switch (random.nextInt(60)) {
            case 0: return -1;
            case 1: return end;
            case 2: return random.nextInt();
            default: return end <= 0 ? 0 : random.nextInt(end);
        }
    }

    private static int pickLetter(Random random, Model m, int newest) {
        int size = m.pool.size();
        if (size > 0 && random.nextInt(10) < newest) {
            return Math.max(0, size - 1 - random.nextInt(12));
        }
        return pick(random, size);
    }

    /** One act; the weights say how often each of the first seven comes, in a thousand; else a letter is delivered. */
    private static void act(Random random, ViewStamps x, Model m, int[] weights, int newest) {
        int kind = 0;
        for (int dice = random.nextInt(1000); kind < weights.length && dice >= weights[kind]; kind++) {
            dice -= weights[kind];
        }
        int node = pick(random, m.n);
        switch (kind) {
            case 0:
                request(random, x, m, node);
                break;
            case 1:
                Due.due("timeout(" + node + ")", x.timeout(node), m.timeout(node));
                break;
            case 2:
                Due.due("crash(" + node + ")", x.crash(node), m.crash(node));
                break;
            case 3:
                int nonce = random.nextInt(3) == 0 ? pick(random, 1000001) : pick(random, 2);
                Due.due("recover(" + node + ", " + nonce + ")", x.recover(node, nonce), m.recover(node, nonce));
                break;
            case 4:
                Due.due("resend(" + node + ")", x.resend(node), m.resend(node));
                break;
            case 5:
                int other = pick(random, m.n);
                boolean on = random.nextInt(4) == 0;
                Due.due("cut(" + node + ", " + other + ", " + on + ")", x.cut(node, other, on), m.cut(node, other, on));
                break;
            case 6:
                int gone = pickLetter(random, m, newest);
                Due.due("drop(" + gone + ")", x.drop(gone), m.drop(gone));
                break;
            default:
                int letter = pickLetter(random, m, newest);
                Due.due("deliver(" + letter + ")", x.deliver(letter), m.deliver(letter));
                break;
        }
    }

    private static void request(Random random, ViewStamps x, Model m, int node) {
        int newest = m.nodes.stream().mapToInt(d -> d.view).max().getAsInt() % m.n;
        int asked = random.nextInt(3) == 0 ? node : newest;
        int client = pick(random, 4), number = 1 + pick(random, random.nextInt(30) == 0 ? 1000000 : 60);
        int kind = pick(random, 3), a = pick(random, 8), b = pick(random, 8);
        int v = random.nextInt(3) == 0 ? random.nextInt() : random.nextInt(21) - 10;
        Due.due("request(" + asked + ", " + client + ", " + number + ", ..)",
            x.request(asked, client, number, kind, a, b, v), m.request(asked, client, number, kind, a, b, v));
    }

    private static void ask(Random random, ViewStamps x, Model m) {
        int node = pick(random, m.n), other = pick(random, m.n), what = pick(random, 9);
        int i = 1 + pick(random, 16), letter = pick(random, m.pool.size());
        Due.due("node(" + node + ", " + what + ")", x.node(node, what), m.node(node, what));
        Due.due("entry(" + node + ", " + i + ", " + what + ")", x.entry(node, i, what), m.entry(node, i, what));
        Due.due("register(" + node + ", " + what + ")", x.register(node, what), m.register(node, what));
        Due.due("known(" + node + ", " + other + ")", x.known(node, other), m.known(node, other));
        Due.due("letter(" + letter + ", " + what + ")", x.letter(letter, what), m.letter(letter, what));
        Due.due("count(" + what + ")", x.count(what), m.count(what));
        Due.due("unlike()", x.unlike(), m.unlike());
    }
}
