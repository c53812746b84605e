/** Promises 1 to 9: a new object, and the calls that act. */
public final class ActsTest {
    private static final int[] WRONG_NODES_OF_THREE = {-1, 3, 4, Integer.MIN_VALUE, Integer.MAX_VALUE};

    public static void main(String[] args) {
        promise1NewObject();
        promise2Wrong();
        promise2State();
        promise2Twice();
        promise2Full();
        promise2Posts();
        promise3Refusals();
        promise3Nothing();
        promise4Drop();
        promise5Cut();
        promise6Timeout();
        promise6Edge();
        promise7Resend();
        promise7Lost();
        promise8Crash();
        promise9Recover();
        Due.end();
    }

    private static void promise1NewObject() {
        for (int n : new int[] {5, 3, 0, -1, 4, 6, 9, Integer.MIN_VALUE, Integer.MAX_VALUE}) {
            ViewStamps x = new ViewStamps(n);
            int size = n == 5 ? 5 : 3;
            Due.due("node past the last of " + n, x.node(size, 0), Steps.BAD);
            Due.due("normal nodes", x.count(4), size);
            for (int what = 0; what <= 3; what++) {
                Due.due("count(" + what + ")", x.count(what), 0);
            }
            for (int i = 0; i < size; i++) {
                Steps.dueNode(x, i, 0, 0, 0, 0, 0, 0, 0, 0, 0);
                Due.due("entry of none", x.entry(i, 1, 0), Steps.LEAST);
                for (int r = 0; r < 8; r++) {
                    Due.due("register at first", x.register(i, r), 0);
                }
                for (int j = 0; j < size; j++) {
                    Due.due("cut at first", x.cut(i, j, false), i == j ? Steps.BAD : 0);
                }
            }
            Due.due("unlike at first", x.unlike(), ViewStamps.NONE);
        }
    }

    private static void promise2Wrong() {
        ViewStamps x = new ViewStamps(3);
        for (int node : WRONG_NODES_OF_THREE) {
            Due.due("request of no node", x.request(node, 0, 1, 0, 0, 0, 0), Steps.BAD);
        }
        for (int client : new int[] {-1, 4, Integer.MIN_VALUE, Integer.MAX_VALUE}) {
            Due.due("request of no client", x.request(0, client, 1, 0, 0, 0, 0), Steps.BAD);
        }
        for (int number : new int[] {0, -1, 1000001, Integer.MIN_VALUE, Integer.MAX_VALUE}) {
            Due.due("request of a wrong number", x.request(0, 0, number, 0, 0, 0, 0), Steps.BAD);
        }
        for (int kind : new int[] {-1, 3, Integer.MIN_VALUE, Integer.MAX_VALUE}) {
            Due.due("request of no kind", x.request(0, 0, 1, kind, 0, 0, 0), Steps.BAD);
        }
        for (int register : new int[] {-1, 8, Integer.MIN_VALUE, Integer.MAX_VALUE}) {
            for (int kind = 0; kind <= 2; kind++) {
                Due.due("request of no register a", x.request(0, 0, 1, kind, register, 0, 0), Steps.BAD);
                Due.due("request of no register b", x.request(0, 0, 1, kind, 0, register, 0), Steps.BAD);
            }
        }
        Due.due("BAD ahead of STATE", x.request(1, 4, 1, 0, 0, 0, 0), Steps.BAD);
        Due.due("nothing posted", x.count(0), 0);
        Due.due("nothing changed", x.digest(), new ViewStamps(3).digest());
        Due.due("greatest of each", x.request(0, 3, 1000000, 2, 7, 7, Integer.MAX_VALUE), 1);
        Due.due("least of each", x.request(0, 0, 1, 0, 0, 0, Integer.MIN_VALUE), 2);
    }

    private static void promise2State() {
        ViewStamps x = new ViewStamps(3);
        Due.due("not the first", Steps.set(x, 1, 1, 1), Steps.STATE);
        Due.due("not the first", Steps.set(x, 2, 1, 1), Steps.STATE);
        x.timeout(1);
        Due.due("first of its view, but changing", Steps.set(x, 1, 1, 1), Steps.STATE);
        x.crash(0);
        Due.due("crashed", Steps.set(x, 0, 1, 1), Steps.STATE);
        x.recover(0, 1);
        Due.due("recovering", Steps.set(x, 0, 1, 1), Steps.STATE);

        ViewStamps y = new ViewStamps(3);
        Steps.nodeOneLeads(y);
        Due.due("first of view 1", Steps.set(y, 1, 1, 1), 1);
        Due.due("still first of view 0", Steps.set(y, 0, 1, 1), 1);
        Due.due("voter of view 1", Steps.set(y, 2, 1, 1), Steps.STATE);
    }

    private static void promise2Twice() {
        ViewStamps x = new ViewStamps(3);
        Due.due("request", x.request(0, 2, 10, 0, 1, 2, 3), 1);
        int letters = x.count(0);
        Due.due("the same number", x.request(0, 2, 10, 1, 4, 5, 6), 0);
        Due.due("a lesser number", x.request(0, 2, 9, 0, 1, 2, 3), 0);
        Due.due("nothing posted", x.count(0), letters);
        Due.due("another client's lesser number", x.request(0, 1, 9, 0, 1, 2, 3), 2);
        Due.due("a greater number", x.request(0, 2, 11, 0, 1, 2, 3), 3);
        Due.due("the number before the last", x.request(0, 2, 10, 0, 1, 2, 3), 0);
        Due.due("STATE ahead of 0", x.request(1, 2, 10, 0, 1, 2, 3), Steps.STATE);
    }

    private static void promise2Full() {
        ViewStamps x = new ViewStamps(3);
        for (int i = 1; i <= 16; i++) {
            Due.due("request " + i, Steps.set(x, 0, i, i), i);
        }
        long before = x.digest();
        Due.due("the 17th", Steps.set(x, 0, 17, 17), Steps.FULL);
        Due.due("0 ahead of FULL", Steps.set(x, 0, 16, 17), 0);
        Due.due("BAD ahead of FULL", x.request(0, 4, 17, 0, 0, 0, 0), Steps.BAD);
        Due.due("nothing changed", x.digest(), before);
        Due.due("the last entry", x.entry(0, 16, 5), 16);
        x.timeout(0);
        Due.due("STATE ahead of FULL", Steps.set(x, 0, 17, 17), Steps.STATE);
    }

    private static void promise2Posts() {
        ViewStamps x = new ViewStamps(5);
        Steps.set(x, 0, 1, 1);
        Steps.pass(x, 0, 1, Steps.PREPARE);
        Steps.pass(x, 0, 4, Steps.PREPARE);
        Steps.pass(x, 1, 0, Steps.OK);
        Steps.pass(x, 4, 0, Steps.OK);
        int at = x.count(0);
        Due.due("request", Steps.set(x, 0, 2, 1), 2);
        for (int to = 1; to <= 4; to++) {
            Steps.dueLetter(x, at + to - 1, 0, to, Steps.PREPARE, 0, 2, 1, 0, 0);
        }
        Due.due("letters", x.count(0), at + 4);
        Due.due("the letter keeps its log", x.letter(0, 4), 1);

        ViewStamps y = new ViewStamps(3);
        Steps.nodeOneLeads(y);
        at = y.count(0);
        Steps.set(y, 1, 1, 1);
        Steps.dueLetter(y, at, 1, 0, Steps.PREPARE, 1, 1, 0, 0, 0);
        Steps.dueLetter(y, at + 1, 1, 2, Steps.PREPARE, 1, 1, 0, 0, 0);
    }

    private static void promise3Refusals() {
        ViewStamps x = new ViewStamps(3);
        Due.due("no letter yet", x.deliver(0), Steps.BAD);
        Steps.set(x, 0, 1, 1);
        for (int letter : new int[] {-1, 2, 239, 240, Integer.MIN_VALUE, Integer.MAX_VALUE}) {
            Due.due("no such letter", x.deliver(letter), Steps.BAD);
        }
        x.cut(1, 0, true);
        long before = x.digest();
        Due.due("line cut", x.deliver(0), Steps.STATE);
        Due.due("nothing changed", x.digest(), before);
        Due.due("another line", x.deliver(1), 1);
        Due.due("answer on the other line", x.deliver(2), 1);
        x.drop(0);
        Due.due("BAD ahead of STATE", x.deliver(0), Steps.BAD);
        x.cut(0, 1, false);
        Due.due("dropped", x.deliver(0), Steps.BAD);
        Due.due("delivered again", x.deliver(1), 1);
        Due.due("and again", x.deliver(1), 1);
    }

    private static void promise3Nothing() {
        ViewStamps x = new ViewStamps(3);
        Steps.set(x, 0, 1, 1);
        x.timeout(2);
        int prepare = Steps.find(x, 0, 2, Steps.PREPARE);
        Due.due("a prepare of a lower view", x.deliver(prepare), 0);
        Due.due("a change", Steps.pass(x, 2, 1, Steps.CHANGE), 1);
        Due.due("a change of a voter", Steps.pass(x, 2, 1, Steps.CHANGE), 0);
        Due.due("a change", Steps.pass(x, 1, 0, Steps.CHANGE), 1);
        Due.due("a vote", Steps.pass(x, 0, 1, Steps.VOTE), 1);
        Due.due("a change at one that is normal in that view", Steps.pass(x, 0, 1, Steps.CHANGE), 0);
        Due.due("a vote at one that is normal in that view", Steps.pass(x, 0, 1, Steps.VOTE), 0);
        x.crash(2);
        Due.due("a begin at a crashed one", Steps.pass(x, 1, 2, Steps.BEGIN), 0);
        x.recover(2, 3);
        Due.due("a begin at a recovering one", Steps.pass(x, 1, 2, Steps.BEGIN), 0);
        Due.due("an ask at a changing one", Steps.pass(x, 2, 0, Steps.ASK), 0);
        Due.due("an ask at a normal one", Steps.pass(x, 2, 1, Steps.ASK), 1);

        ViewStamps y = new ViewStamps(5);
        y.timeout(2);
        Steps.pass(y, 2, 3, Steps.CHANGE);
        y.timeout(0);
        Steps.pass(y, 0, 3, Steps.CHANGE);
        Due.due("a vote", Steps.pass(y, 3, 1, Steps.VOTE), 1);
        long before = y.digest();
        Due.due("a vote of one among the votes", Steps.pass(y, 3, 1, Steps.VOTE), 0);
        Due.due("nothing changed", y.digest(), before);
    }

    private static void promise4Drop() {
        ViewStamps x = new ViewStamps(3);
        Due.due("no letter yet", x.drop(0), Steps.BAD);
        Steps.set(x, 0, 1, 1);
        for (int letter : new int[] {-1, 2, 240, Integer.MIN_VALUE, Integer.MAX_VALUE}) {
            Due.due("no such letter", x.drop(letter), Steps.BAD);
        }
        x.cut(0, 1, true);
        Due.due("dropped on a cut line", x.drop(0), 1);
        Due.due("dropped before", x.drop(0), Steps.BAD);
        Steps.dueLetter(x, 0, 0, 1, Steps.PREPARE, 0, 1, 0, 0, 1);
        Due.due("the other is not", x.letter(1, 7), 0);
        Due.due("dropped in all", x.count(1), 1);
        Due.due("letters in all", x.count(0), 2);
    }

    private static void promise5Cut() {
        ViewStamps x = new ViewStamps(3);
        for (int node : WRONG_NODES_OF_THREE) {
            Due.due("no such node", x.cut(node, 0, true), Steps.BAD);
            Due.due("no such node", x.cut(0, node, true), Steps.BAD);
            Due.due("no such node twice", x.cut(node, node, true), Steps.BAD);
        }
        Due.due("a node twice", x.cut(2, 2, true), Steps.BAD);
        Due.due("none is cut", x.count(3), 0);
        Due.due("cut", x.cut(0, 2, true), 0);
        Due.due("the same line", x.cut(2, 0, true), 1);
        Due.due("one is cut", x.count(3), 1);
        Due.due("another line", x.cut(2, 1, true), 0);
        Due.due("two are cut", x.count(3), 2);
        Due.due("the third line", x.cut(0, 1, false), 0);
        Due.due("mended", x.cut(0, 2, false), 1);
        Due.due("mended before", x.cut(2, 0, false), 0);
        Due.due("the other line stays cut", x.cut(1, 2, true), 1);

        ViewStamps y = new ViewStamps(5);
        for (int i = 0; i < 5; i++) {
            for (int j = 0; j < i; j++) {
                Due.due("each line is its own", y.cut(i, j, true), 0);
            }
        }
        Due.due("ten lines", y.count(3), 10);
    }

    private static void promise6Timeout() {
        ViewStamps x = new ViewStamps(5);
        for (int node : new int[] {-1, 5, Integer.MIN_VALUE, Integer.MAX_VALUE}) {
            Due.due("no such node", x.timeout(node), Steps.BAD);
        }
        Steps.set(x, 0, 1, 1);
        int at = x.count(0);
        Due.due("timeout", x.timeout(0), 1);
        Steps.dueNode(x, 0, Steps.CHANGING, 1, 0, 1, 0, 0, 0, 0, 0);
        for (int to = 1; to <= 4; to++) {
            Steps.dueLetter(x, at + to - 1, 0, to, Steps.CHANGE, 1, 0, 0, 0, 0);
        }
        Due.due("letters", x.count(0), at + 4);
        x.timeout(1);
        Steps.pass(x, 1, 0, Steps.CHANGE);
        Due.due("a voter", x.node(0, 5), 1);
        Due.due("timeout of one that changes", x.timeout(0), 2);
        Due.due("no voters any more", x.node(0, 5), 0);
        x.crash(3);
        Due.due("crashed", x.timeout(3), Steps.STATE);
        x.recover(3, 0);
        Due.due("recovering", x.timeout(3), Steps.STATE);
        Steps.dueNode(x, 3, Steps.RECOVERING, 0, 0);
    }

    /** View 1000 lies beyond the 512 calls that are promised; that it is refused is tested all the same. */
    private static void promise6Edge() {
        ViewStamps x = new ViewStamps(3);
        for (int view = 1; view <= 1000; view++) {
            Due.due("timeout", x.timeout(0), view);
        }
        Due.due("view 1000", x.timeout(0), Steps.FULL);
        Due.due("the view stays", x.node(0, 1), 1000);
    }

    private static void promise7Resend() {
        ViewStamps x = new ViewStamps(3);
        for (int node : WRONG_NODES_OF_THREE) {
            Due.due("no such node", x.resend(node), Steps.BAD);
        }
        Steps.set(x, 0, 1, 1);
        Steps.pass(x, 0, 1, Steps.PREPARE);
        int at = x.count(0);
        Due.due("the first", x.resend(0), 2);
        Steps.dueLetter(x, at, 0, 1, Steps.PREPARE, 0, 1, 0, 0, 0);
        Steps.dueLetter(x, at + 1, 0, 2, Steps.PREPARE, 0, 1, 0, 0, 0);
        Due.due("another", x.resend(1), 1);
        Steps.dueLetter(x, at + 2, 1, 0, Steps.OK, 0, 0, 0, 1, 0);

        x.timeout(1);
        x.timeout(1);
        at = x.count(0);
        Due.due("changing, not voted", x.resend(1), 2);
        Steps.dueLetter(x, at, 1, 0, Steps.CHANGE, 2, 0, 0, 0, 0);
        Steps.dueLetter(x, at + 1, 1, 2, Steps.CHANGE, 2, 0, 0, 0, 0);
        x.deliver(at);
        Due.due("voted", x.node(0, 7), 1);
        at = x.count(0);
        Due.due("changing, voted", x.resend(0), 3);
        Steps.dueLetter(x, at, 0, 1, Steps.CHANGE, 2, 0, 0, 0, 0);
        Steps.dueLetter(x, at + 1, 0, 2, Steps.CHANGE, 2, 0, 0, 0, 0);
        Steps.dueLetter(x, at + 2, 0, 2, Steps.VOTE, 2, 1, 0, 0, 0);
        Steps.pass(x, 1, 2, Steps.CHANGE);
        Due.due("the first has voted", x.node(2, 7), 1);
        Due.due("changing, voted, the first", x.resend(2), 2);
        Due.due("the first posts no vote", Steps.find(x, 2, 2, Steps.VOTE), -1);

        x.crash(0);
        Due.due("crashed", x.resend(0), Steps.STATE);
        x.recover(0, 77);
        at = x.count(0);
        Due.due("recovering", x.resend(0), 2);
        Steps.dueLetter(x, at, 0, 1, Steps.ASK, 0, 0, 0, 77, 0);
        Steps.dueLetter(x, at + 1, 0, 2, Steps.ASK, 0, 0, 0, 77, 0);
    }

    private static void promise7Lost() {
        ViewStamps x = new ViewStamps(5);
        for (int i = 0; i < 60; i++) {
            Due.due("resend", x.resend(0), 4);
        }
        Due.due("the pool is full", x.count(0), 240);
        Due.due("none is lost", x.count(2), 0);
        Due.due("lost ones are told, too", x.resend(0), 4);
        Due.due("letters", x.count(0), 240);
        Due.due("lost", x.count(2), 4);
        Due.due("the last letter", x.deliver(239), 1);
        Due.due("its answer is lost", x.count(2), 5);
        Due.due("no letter past the last", x.deliver(240), Steps.BAD);
        x.drop(0);
        Due.due("request", Steps.set(x, 0, 1, 1), 1);
        Due.due("a dropped letter leaves no room", x.count(2), 9);
    }

    private static void promise8Crash() {
        ViewStamps x = new ViewStamps(3);
        for (int node : WRONG_NODES_OF_THREE) {
            Due.due("no such node", x.crash(node), Steps.BAD);
        }
        Steps.nodeOneLeads(x);
        Steps.set(x, 1, 1, 5);
        Steps.set(x, 1, 2, 6);
        Steps.pass(x, 1, 2, Steps.PREPARE);
        Steps.pass(x, 2, 1, Steps.OK);
        Steps.dueNode(x, 1, Steps.NORMAL, 1, 1, 2, 2);
        Due.due("register", x.register(1, 0), 6);
        Due.due("crash", x.crash(1), 2);
        Steps.dueNode(x, 1, Steps.CRASHED, 0, 0, 0, 0, 0, 0, 0, 0);
        Due.due("no entry", x.entry(1, 1, 0), Steps.LEAST);
        Due.due("register", x.register(1, 0), 0);
        Due.due("crashed before", x.crash(1), Steps.STATE);
        Due.due("with no log", x.crash(0), 0);
        x.recover(1, 1);
        Due.due("recovering", x.crash(1), 0);
        Due.due("crashed again", x.node(1, 0), Steps.CRASHED);
        Due.due("normal ones", x.count(4), 1);
    }

    private static void promise9Recover() {
        ViewStamps x = new ViewStamps(5);
        Due.due("normal", x.recover(2, 1), Steps.STATE);
        x.timeout(3);
        Due.due("changing", x.recover(3, 1), Steps.STATE);
        x.crash(2);
        for (int node : new int[] {-1, 5, Integer.MIN_VALUE, Integer.MAX_VALUE}) {
            Due.due("no such node", x.recover(node, 1), Steps.BAD);
        }
        for (int nonce : new int[] {-1, 1000001, Integer.MIN_VALUE, Integer.MAX_VALUE}) {
            Due.due("no nonce", x.recover(2, nonce), Steps.BAD);
            Due.due("BAD ahead of STATE", x.recover(1, nonce), Steps.BAD);
        }
        int at = x.count(0);
        Due.due("recover", x.recover(2, 1000000), 1);
        Steps.dueNode(x, 2, Steps.RECOVERING, 0, 0, 0, 0, 0, 0, 0, 0);
        int[] others = {0, 1, 3, 4};
        for (int i = 0; i < 4; i++) {
            Steps.dueLetter(x, at + i, 2, others[i], Steps.ASK, 0, 0, 0, 1000000, 0);
        }
        Due.due("letters", x.count(0), at + 4);
        Due.due("recovering", x.recover(2, 1), Steps.STATE);
        Steps.pass(x, 2, 0, Steps.ASK);
        Steps.pass(x, 0, 2, Steps.TELL);
        Due.due("a tale", x.node(2, 8), 1);
        x.crash(2);
        Due.due("the least nonce", x.recover(2, 0), 1);
        Due.due("no tales", x.node(2, 8), 0);
        Due.due("a tale of another nonce", Steps.pass(x, 0, 2, Steps.TELL), 0);
        Due.due("no tales", x.node(2, 8), 0);
    }
}
