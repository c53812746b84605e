import java.util.Arrays;
import java.util.function.ToLongFunction;

/**
 * Calls that must answer so and change nothing: each is made on a new object in the run's state, and what that object
 * shows from then on is held against another one that was not called so.
 */
final class Still {
    private final Run run;
    private final long want;

    Still(Run run, long want) {
        this.run = run;
        this.want = want;
    }

    private void check(String name, ToLongFunction<ViewStamps> call, Object... arguments) {
        String text = name + Arrays.toString(arguments).replace('[', '(').replace(']', ')');
        Run called = run.again(), spared = run.again();
        Due.due(text, call.applyAsLong(called.object()), want);
        // so that both have as many calls left
        spared.count(0);
        Due.dueTrue(text + " changes nothing", called.trace().equals(spared.trace()));
    }

    void request(int node, int client, int number, int kind, int a, int b, int v) {
        check("request", x -> x.request(node, client, number, kind, a, b, v), node, client, number, kind, a, b, v);
    }

    void deliver(int letter) {
        check("deliver", x -> x.deliver(letter), letter);
    }

    void drop(int letter) {
        check("drop", x -> x.drop(letter), letter);
    }

    void cut(int i, int j, boolean on) {
        check("cut", x -> x.cut(i, j, on), i, j, on);
    }

    void timeout(int node) {
        check("timeout", x -> x.timeout(node), node);
    }

    void resend(int node) {
        check("resend", x -> x.resend(node), node);
    }

    void crash(int node) {
        check("crash", x -> x.crash(node), node);
    }

    void recover(int node, int nonce) {
        check("recover", x -> x.recover(node, nonce), node, nonce);
    }

    void node(int node, int what) {
        check("node", x -> x.node(node, what), node, what);
    }

    void entry(int node, int i, int what) {
        check("entry", x -> x.entry(node, i, what), node, i, what);
    }

    void register(int node, int r) {
        check("register", x -> x.register(node, r), node, r);
    }

    void known(int node, int other) {
        check("known", x -> x.known(node, other), node, other);
    }

    void letter(int letter, int what) {
        check("letter", x -> x.letter(letter, what), letter, what);
    }

    void count(int what) {
        check("count", x -> x.count(what), what);
    }

    void unlike() {
        check("unlike", ViewStamps::unlike);
    }

    void digest() {
        check("digest", ViewStamps::digest);
    }
}
