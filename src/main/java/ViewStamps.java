import java.util.Arrays;

/** Nodes that keep one log alike by views, over a pool of letters; see README.md and the document. */
public final class ViewStamps {
    public static final int NONE = -1, BAD = -2, STATE = -3, FULL = -4;

    private static final int NORMAL = 0, CHANGING = 1, RECOVERING = 2, CRASHED = 3;
    private static final int PREPARE = 1, OK = 2, CHANGE = 3, VOTE = 4, BEGIN = 5, ASK = 6, TELL = 7;
    private static final int SET = 0, ADD = 1, MOVE = 2;
    private static final int CLIENT = 0, NUMBER = 1, KIND = 2, A = 3, B = 4, V = 5, ENTRY_WIDTH = 6;

    private static final int LEAST_INT = -2147483648;
    private static final int MOST_ENTRIES = 16, MOST_LETTERS = 240, MOST_VIEW = 1000, MOST_NUMBER = 1000000;
    private static final int CLIENTS = 4, KINDS = 3, REGISTERS = 8;
    private static final int NODE_FIELDS = 9, LETTER_FIELDS = 8;

    private final Pool pool;
    private final Node[] nodes;
    private final boolean[] cutLines;

    public ViewStamps(int n) {
        int size = n == 5 ? 5 : 3;
        Log empty = new Log(new int[0]);
        pool = new Pool();
        nodes = new Node[size];
        for (int i = 0; i < size; i++) {
            nodes[i] = new Node(i, size, pool, empty);
        }
        cutLines = new boolean[size * size];
    }

    // ---- acts

    public int request(int node, int client, int number, int kind, int a, int b, int v) {
        Node asked = nodeAt(node);
        if (asked == null || !isEntry(client, number, kind, a, b)) {
            return BAD;
        }
        if (!asked.leads()) {
            return STATE;
        }
        if (asked.log.answers(client, number)) {
            return 0;
        }
        if (asked.log.size() >= MOST_ENTRIES) {
            return FULL;
        }
        asked.log = asked.log.with(client, number, kind, a, b, v);
        asked.postToAll(PREPARE, 0);
        return asked.log.size();
    }

    public int deliver(int letter) {
        Letter found = pool.standing(letter);
        if (found == null) {
            return BAD;
        }
        if (cutLines[lineBetween(found.from, found.to)]) {
            return STATE;
        }
        return nodes[found.to].hear(found) ? 1 : 0;
    }

    public int drop(int letter) {
        Letter found = pool.standing(letter);
        if (found == null) {
            return BAD;
        }
        found.dropped = true;
        return 1;
    }

    public int cut(int i, int j, boolean on) {
        if (nodeAt(i) == null || nodeAt(j) == null || i == j) {
            return BAD;
        }
        int line = lineBetween(i, j);
        int before = cutLines[line] ? 1 : 0;
        cutLines[line] = on;
        return before;
    }

    public int timeout(int node) {
        Node waiting = nodeAt(node);
        if (waiting == null) {
            return BAD;
        }
        if (waiting.isDown()) {
            return STATE;
        }
        if (waiting.view >= MOST_VIEW) {
            return FULL;
        }
        waiting.changeTo(waiting.view + 1);
        return waiting.view;
    }

    public int resend(int node) {
        Node sender = nodeAt(node);
        if (sender == null) {
            return BAD;
        }
        return sender.status == CRASHED ? STATE : sender.postAgain();
    }

    public int crash(int node) {
        Node struck = nodeAt(node);
        if (struck == null) {
            return BAD;
        }
        if (struck.status == CRASHED) {
            return STATE;
        }
        int entries = struck.log.size();
        struck.loseAll();
        return entries;
    }

    public int recover(int node, int nonce) {
        Node struck = nodeAt(node);
        if (struck == null || nonce < 0 || nonce > MOST_NUMBER) {
            return BAD;
        }
        if (struck.status != CRASHED) {
            return STATE;
        }
        struck.startRecovery(nonce);
        return 1;
    }

    // ---- asked

    public int node(int node, int what) {
        Node asked = nodeAt(node);
        return asked == null ? BAD : asked.field(what);
    }

    public int entry(int node, int i, int what) {
        Node asked = nodeAt(node);
        return asked == null ? LEAST_INT : asked.log.field(i, what);
    }

    public int register(int node, int r) {
        Node asked = nodeAt(node);
        if (asked == null || r < 0 || r >= REGISTERS) {
            return LEAST_INT;
        }
        return asked.workOutRegisters()[r];
    }

    public int known(int node, int other) {
        Node asked = nodeAt(node);
        if (asked == null || nodeAt(other) == null || node == other) {
            return BAD;
        }
        return asked.leads() ? asked.told[other] : STATE;
    }

    public int letter(int letter, int what) {
        Letter found = pool.at(letter);
        return found == null ? BAD : found.field(what);
    }

    public int count(int what) {
        switch (what) {
            case 0:
                return pool.posted;
            case 1:
                return pool.countDropped();
            case 2:
                return pool.lost;
            case 3:
                return countCutLines();
            case 4:
                return countNormal();
            default:
                return BAD;
        }
    }

    public int unlike() {
        for (int i = 0; i < nodes.length; i++) {
            for (int j = i + 1; j < nodes.length; j++) {
                int common = Math.min(nodes[i].sure, nodes[j].sure);
                if (!nodes[i].log.isLike(nodes[j].log, common)) {
                    return 10 * i + j;
                }
            }
        }
        return NONE;
    }

    public long digest() {
        long h = 17;
        for (Node each : nodes) {
            h = digestOfNode(h, each);
        }
        for (int number = 0; number < pool.posted; number++) {
            for (int what = 0; what < LETTER_FIELDS; what++) {
                h = 31 * h + letter(number, what);
            }
        }
        return h;
    }

    // ---- helpers of the face

    private static long digestOfNode(long start, Node node) {
        long h = start;
        for (int what = 0; what < NODE_FIELDS; what++) {
            h = 31 * h + node.field(what);
        }
        for (int i = 1; i <= node.log.size(); i++) {
            for (int what = 0; what < ENTRY_WIDTH; what++) {
                h = 31 * h + node.log.field(i, what);
            }
        }
        for (int value : node.workOutRegisters()) {
            h = 31 * h + value;
        }
        return h;
    }

    private Node nodeAt(int number) {
        return number >= 0 && number < nodes.length ? nodes[number] : null;
    }

    private static boolean isEntry(int client, int number, int kind, int a, int b) {
        return isBelow(client, CLIENTS) && number >= 1 && number <= MOST_NUMBER
            && isBelow(kind, KINDS) && isBelow(a, REGISTERS) && isBelow(b, REGISTERS);
    }

    private static boolean isBelow(int number, int end) {
        return number >= 0 && number < end;
    }

    /** A line has no direction, so both orders of its NODES have one place. */
    private int lineBetween(int i, int j) {
        return Math.min(i, j) * nodes.length + Math.max(i, j);
    }

    private int countCutLines() {
        int lines = 0;
        for (boolean isCut : cutLines) {
            lines += isCut ? 1 : 0;
        }
        return lines;
    }

    private int countNormal() {
        int normal = 0;
        for (Node each : nodes) {
            normal += each.status == NORMAL ? 1 : 0;
        }
        return normal;
    }

    /** ENTRIES, one behind the other. It never changes, so NODES and LETTERS may share one. */
    private static final class Log {
        private final int[] cells;

        Log(int[] cells) {
            this.cells = cells;
        }

        int size() {
            return cells.length / ENTRY_WIDTH;
        }

        int field(int i, int what) {
            if (i < 1 || i > size() || what < 0 || what >= ENTRY_WIDTH) {
                return LEAST_INT;
            }
            return cells[(i - 1) * ENTRY_WIDTH + what];
        }

        Log with(int client, int number, int kind, int a, int b, int v) {
            int at = cells.length;
            int[] longer = Arrays.copyOf(cells, at + ENTRY_WIDTH);
            longer[at + CLIENT] = client;
            longer[at + NUMBER] = number;
            longer[at + KIND] = kind;
            longer[at + A] = a;
            longer[at + B] = b;
            longer[at + V] = v;
            return new Log(longer);
        }

        /** Whether that CLIENT has an ENTRY here with that NUMBER or a greater one. */
        boolean answers(int client, int number) {
            for (int i = 1; i <= size(); i++) {
                if (field(i, CLIENT) == client && field(i, NUMBER) >= number) {
                    return true;
                }
            }
            return false;
        }

        boolean isLike(Log other, int entries) {
            for (int i = 1; i <= entries; i++) {
                for (int what = 0; what < ENTRY_WIDTH; what++) {
                    if (field(i, what) != other.field(i, what)) {
                        return false;
                    }
                }
            }
            return true;
        }

        void play(int entries, int[] registers) {
            for (int i = 1; i <= entries; i++) {
                int a = field(i, A);
                int v = field(i, V);
                switch (field(i, KIND)) {
                    case SET:
                        registers[a] = v;
                        break;
                    case ADD:
                        registers[a] += v;
                        break;
                    case MOVE:
                        if (registers[a] >= v) {
                            registers[a] -= v;
                            registers[field(i, B)] += v;
                        }
                        break;
                    default:
                        break;
                }
            }
        }
    }

    /** What one NODE writes to another. But for being DROPPED it never changes. */
    private static final class Letter {
        final int from, to, sort, view, sure, count;
        final Log log;
        boolean dropped;

        Letter(int from, int to, int sort, int view, Log log, int sure, int count) {
            this.from = from;
            this.to = to;
            this.sort = sort;
            this.view = view;
            this.log = log;
            this.sure = sure;
            this.count = count;
        }

        int field(int what) {
            switch (what) {
                case 0:
                    return from;
                case 1:
                    return to;
                case 2:
                    return sort;
                case 3:
                    return view;
                case 4:
                    return log.size();
                case 5:
                    return sure;
                case 6:
                    return count;
                case 7:
                    return dropped ? 1 : 0;
                default:
                    return BAD;
            }
        }
    }

    /** THE POOL. */
    private static final class Pool {
        private final Letter[] letters = new Letter[MOST_LETTERS];
        int posted, lost;

        void add(Letter letter) {
            if (posted >= letters.length) {
                lost++;
                return;
            }
            letters[posted] = letter;
            posted++;
        }

        Letter at(int number) {
            return number >= 0 && number < posted ? letters[number] : null;
        }

        /** The LETTER of that number, if there is one that was not DROPPED. */
        Letter standing(int number) {
            Letter found = at(number);
            return found == null || found.dropped ? null : found;
        }

        int countDropped() {
            int gone = 0;
            for (Letter each : letters) {
                gone += each != null && each.dropped ? 1 : 0;
            }
            return gone;
        }
    }

    /** A NODE, and what it does with the LETTERS that reach it. */
    private static final class Node {
        private final int number, size, enough;
        private final Pool pool;
        private final Log empty;
        private final Letter[] votes, tales;
        private final int[] registers = new int[REGISTERS];
        final int[] told;
        int status, view, sure;
        Log log;
        private int lastView, nonce;
        // one bit for each NODE
        private int voters;
        private boolean voted;

        Node(int number, int size, Pool pool, Log empty) {
            this.number = number;
            this.size = size;
            this.enough = size == 5 ? 2 : 1;
            this.pool = pool;
            this.empty = empty;
            this.log = empty;
            this.votes = new Letter[size];
            this.tales = new Letter[size];
            this.told = new int[size];
        }

        int field(int what) {
            boolean changing = status == CHANGING;
            switch (what) {
                case 0:
                    return status;
                case 1:
                    return view;
                case 2:
                    return lastView;
                case 3:
                    return log.size();
                case 4:
                    return sure;
                case 5:
                    return changing ? Integer.bitCount(voters) : 0;
                case 6:
                    return changing ? countLetters(votes) : 0;
                case 7:
                    return changing && voted ? 1 : 0;
                case 8:
                    return status == RECOVERING ? countLetters(tales) : 0;
                default:
                    return BAD;
            }
        }

        /** Whether it is the FIRST of its VIEW, and NORMAL. */
        boolean leads() {
            return status == NORMAL && isFirst();
        }

        boolean isDown() {
            return status == RECOVERING || status == CRASHED;
        }

        /** The row is used again by the next call. */
        int[] workOutRegisters() {
            Arrays.fill(registers, 0);
            log.play(sure, registers);
            return registers;
        }

        void postToAll(int sort, int count) {
            for (int to = 0; to < size; to++) {
                if (to != number) {
                    pool.add(write(to, sort, count));
                }
            }
        }

        void changeTo(int newView) {
            view = newView;
            status = CHANGING;
            forgetVotes();
            postToAll(CHANGE, 0);
        }

        /** How many LETTERS it posted. */
        int postAgain() {
            switch (status) {
                case NORMAL:
                    if (!isFirst()) {
                        postOk();
                        return 1;
                    }
                    postToAll(PREPARE, 0);
                    return size - 1;
                case CHANGING:
                    postToAll(CHANGE, 0);
                    if (!voted || isFirst()) {
                        return size - 1;
                    }
                    castVote();
                    return size;
                case RECOVERING:
                    postToAll(ASK, nonce);
                    return size - 1;
                default:
                    return 0;
            }
        }

        void loseAll() {
            status = CRASHED;
            view = 0;
            lastView = 0;
            sure = 0;
            log = empty;
            nonce = 0;
            forgetVotes();
            forgetTales();
            Arrays.fill(told, 0);
        }

        void startRecovery(int newNonce) {
            status = RECOVERING;
            nonce = newNonce;
            forgetTales();
            postToAll(ASK, nonce);
        }

        /** Whether the LETTER did anything. */
        boolean hear(Letter letter) {
            if (letter.sort == ASK) {
                return hearAsk(letter);
            }
            if (letter.sort == TELL) {
                return hearTell(letter);
            }
            if (isDown() || view > letter.view) {
                return false;
            }
            switch (letter.sort) {
                case PREPARE:
                case BEGIN:
                    return hearLog(letter);
                case OK:
                    return hearOk(letter);
                case CHANGE:
                    return hearChange(letter);
                case VOTE:
                    return hearVote(letter);
                default:
                    return false;
            }
        }

        private boolean hearLog(Letter letter) {
            boolean joins = view < letter.view || status == CHANGING;
            if (!joins && isFirst()) {
                return false;
            }
            if (joins || letter.log.size() > log.size()) {
                log = letter.log;
            }
            sure = Math.min(Math.max(sure, letter.sure), log.size());
            settleIn(letter.view);
            postOk();
            return true;
        }

        private boolean hearOk(Letter letter) {
            if (!leads() || view != letter.view) {
                return false;
            }
            told[letter.from] = Math.max(told[letter.from], letter.count);
            sure = Math.max(sure, Math.min(heldByEnough(), log.size()));
            return true;
        }

        private boolean hearChange(Letter letter) {
            if (view < letter.view) {
                changeTo(letter.view);
            }
            int sender = 1 << letter.from;
            if (status != CHANGING || (voters & sender) != 0) {
                return false;
            }
            voters |= sender;
            if (!voted && Integer.bitCount(voters) >= enough) {
                castVote();
                leadIfElected();
            }
            return true;
        }

        private boolean hearVote(Letter letter) {
            if (firstOf(letter.view) != number) {
                return false;
            }
            if (view < letter.view) {
                changeTo(letter.view);
            }
            if (status != CHANGING || votes[letter.from] != null) {
                return false;
            }
            votes[letter.from] = letter;
            leadIfElected();
            return true;
        }

        private boolean hearAsk(Letter letter) {
            if (status != NORMAL) {
                return false;
            }
            pool.add(write(letter.from, TELL, letter.count));
            return true;
        }

        private boolean hearTell(Letter letter) {
            if (status != RECOVERING || nonce != letter.count) {
                return false;
            }
            tales[letter.from] = letter;
            if (countLetters(tales) > enough) {
                believeFirst();
            }
            return true;
        }

        /** Takes the newest VIEW's FIRST at its word, if it is among those that told. */
        private void believeFirst() {
            int newest = 0;
            for (Letter tale : tales) {
                if (tale != null) {
                    newest = Math.max(newest, tale.view);
                }
            }
            Letter word = tales[firstOf(newest)];
            if (word != null && word.view == newest) {
                log = word.log;
                sure = word.sure;
                settleIn(newest);
            }
        }

        /** The FIRST's own VOTE goes to its VOTES at once, not through THE POOL. */
        private void castVote() {
            voted = true;
            Letter vote = write(firstOf(view), VOTE, lastView);
            if (isFirst()) {
                votes[number] = vote;
            } else {
                pool.add(vote);
            }
        }

        private void leadIfElected() {
            if (votes[number] == null || countLetters(votes) <= enough) {
                return;
            }
            Letter best = null;
            int surest = 0;
            for (Letter vote : votes) {
                if (vote != null) {
                    best = best == null || isAhead(vote, best) ? vote : best;
                    surest = Math.max(surest, vote.sure);
                }
            }
            if (best == null) {
                return;
            }
            log = best.log;
            sure = Math.min(surest, log.size());
            settleIn(view);
            Arrays.fill(told, 0);
            postToAll(BEGIN, 0);
        }

        private static boolean isAhead(Letter vote, Letter other) {
            if (vote.count != other.count) {
                return vote.count > other.count;
            }
            return vote.log.size() > other.log.size();
        }

        private void settleIn(int newView) {
            view = newView;
            lastView = newView;
            status = NORMAL;
        }

        /** The greatest number of ENTRIES that F other NODES are known to have at least. */
        private int heldByEnough() {
            int greatest = 0;
            for (int entries : told) {
                if (entries > greatest && countTold(entries) >= enough) {
                    greatest = entries;
                }
            }
            return greatest;
        }

        /** It is never told of itself: its own place in the row stays 0. */
        private int countTold(int entries) {
            int others = 0;
            for (int each : told) {
                others += each >= entries ? 1 : 0;
            }
            return others;
        }

        private void postOk() {
            pool.add(write(firstOf(view), OK, log.size()));
        }

        /** A LETTER as it would be now. One that RECOVERS has VIEW 0, as its ASK must. */
        private Letter write(int to, int sort, int count) {
            boolean hasLog = sort == PREPARE || sort == VOTE || sort == BEGIN || sort == TELL;
            return new Letter(number, to, sort, view, hasLog ? log : empty, hasLog ? sure : 0, count);
        }

        private boolean isFirst() {
            return firstOf(view) == number;
        }

        private int firstOf(int someView) {
            return size == 5 ? someView % 5 : someView % 3;
        }

        private void forgetVotes() {
            voters = 0;
            voted = false;
            for (int i = 0; i < size; i++) {
                votes[i] = null;
            }
        }

        private void forgetTales() {
            for (int i = 0; i < size; i++) {
                tales[i] = null;
            }
        }

        private static int countLetters(Letter[] row) {
            int letters = 0;
            for (Letter each : row) {
                letters += each == null ? 0 : 1;
            }
            return letters;
        }
    }
}
