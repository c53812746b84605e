import java.util.ArrayList;
import java.util.List;
import java.util.Map;
import java.util.TreeMap;
import java.util.TreeSet;

/** The document told a second time, as plainly as can be: all is copied, nothing is shared. */
final class Model {
    static final int BAD = -2, STATE = -3, FULL = -4;

    static final class L {
        int from, to, sort, view, sure, count;
        List<List<Integer>> log = new ArrayList<>();
        boolean dropped;
    }

    static final class Nd {
        int status, view, lastView, sure, nonce;
        List<List<Integer>> log = new ArrayList<>();
        TreeSet<Integer> voters = new TreeSet<>();
        boolean voted;
        Map<Integer, L> votes = new TreeMap<>();
        Map<Integer, L> tales = new TreeMap<>();
        Map<Integer, Integer> known = new TreeMap<>();
    }

    final int n, f;
    final List<Nd> nodes = new ArrayList<>();
    final List<L> pool = new ArrayList<>();
    final TreeSet<String> cut = new TreeSet<>();
    int lost;

    Model(int arg) {
        n = arg == 5 ? 5 : 3;
        f = n == 5 ? 2 : 1;
        for (int i = 0; i < n; i++) {
            nodes.add(new Nd());
        }
    }

    private boolean noNode(int i) {
        return i < 0 || i >= n;
    }

    private L make(int from, int to, int sort, int view) {
        L l = new L();
        l.from = from;
        l.to = to;
        l.sort = sort;
        l.view = view;
        return l;
    }

    private void put(L l) {
        if (pool.size() == 240) {
            lost++;
        } else {
            pool.add(l);
        }
    }

    private L withLog(L l) {
        l.log = new ArrayList<>(nodes.get(l.from).log);
        l.sure = nodes.get(l.from).sure;
        return l;
    }

    private void toAll(int from, int sort) {
        for (int to = 0; to < n; to++) {
            if (to == from) {
                continue;
            }
            Nd me = nodes.get(from);
            L l = make(from, to, sort, me.view);
            if (sort == 1 || sort == 5) {
                withLog(l);
            }
            if (sort == 6) {
                l.view = 0;
                l.count = me.nonce;
            }
            put(l);
        }
    }

    private void ok(int from) {
        Nd me = nodes.get(from);
        L l = make(from, me.view % n, 2, me.view);
        l.count = me.log.size();
        put(l);
    }

    private L voteOf(int from) {
        Nd me = nodes.get(from);
        L l = withLog(make(from, me.view % n, 4, me.view));
        l.count = me.lastView;
        return l;
    }

    private void change(int i, int view) {
        Nd me = nodes.get(i);
        me.view = view;
        me.status = 1;
        me.voters.clear();
        me.voted = false;
        me.votes.clear();
        toAll(i, 3);
    }

    int request(int node, int client, int number, int kind, int a, int b, int v) {
        if (noNode(node) || client < 0 || client > 3 || number < 1 || number > 1000000 || kind < 0 || kind > 2
            || a < 0 || a > 7 || b < 0 || b > 7) {
            return BAD;
        }
        Nd me = nodes.get(node);
        if (me.status != 0 || me.view % n != node) {
            return STATE;
        }
        for (List<Integer> e : me.log) {
            if (e.get(0) == client && e.get(1) >= number) {
                return 0;
            }
        }
        if (me.log.size() == 16) {
            return FULL;
        }
        me.log.add(List.of(client, number, kind, a, b, v));
        toAll(node, 1);
        return me.log.size();
    }

    int deliver(int i) {
        if (i < 0 || i >= pool.size() || pool.get(i).dropped) {
            return BAD;
        }
        L l = pool.get(i);
        if (cut.contains(Math.min(l.from, l.to) + "-" + Math.max(l.from, l.to))) {
            return STATE;
        }
        return arrive(l);
    }

    private int arrive(L l) {
        Nd me = nodes.get(l.to);
        boolean first = l.view % n == l.to;
        if (l.sort <= 5 && (me.status >= 2 || me.view > l.view)) {
            return 0;
        }
        if (l.sort == 1 || l.sort == 5) {
            if (me.view < l.view || me.status == 1) {
                me.log = new ArrayList<>(l.log);
                me.view = l.view;
                me.lastView = l.view;
                me.status = 0;
                me.sure = Math.min(Math.max(me.sure, l.sure), me.log.size());
                ok(l.to);
                return 1;
            }
            if (first) {
                return 0;
            }
            if (l.log.size() > me.log.size()) {
                me.log = new ArrayList<>(l.log);
            }
            me.sure = Math.min(Math.max(me.sure, l.sure), me.log.size());
            ok(l.to);
            return 1;
        }
        if (l.sort == 2) {
            if (!first || me.status != 0 || me.view != l.view) {
                return 0;
            }
            me.known.merge(l.from, l.count, Math::max);
            for (int k = me.log.size(); k > me.sure; k--) {
                int least = k;
                if (me.known.values().stream().filter(x -> x >= least).count() >= f) {
                    me.sure = k;
                    break;
                }
            }
            return 1;
        }
        if (l.sort == 3) {
            if (l.view > me.view) {
                change(l.to, l.view);
            }
            if (me.status != 1 || !me.voters.add(l.from)) {
                return 0;
            }
            if (me.voters.size() >= f && !me.voted) {
                me.voted = true;
                L vote = voteOf(l.to);
                if (vote.to == l.to) {
                    arrive(vote);
                } else {
                    put(vote);
                }
            }
            return 1;
        }
        if (l.sort == 4) {
            if (!first) {
                return 0;
            }
            if (l.view > me.view) {
                change(l.to, l.view);
            }
            if (me.status != 1 || me.votes.containsKey(l.from)) {
                return 0;
            }
            me.votes.put(l.from, l);
            if (me.votes.size() >= f + 1 && me.votes.containsKey(l.to)) {
                elect(l.to);
            }
            return 1;
        }
        if (l.sort == 6) {
            if (me.status != 0) {
                return 0;
            }
            L tell = withLog(make(l.to, l.from, 7, me.view));
            tell.count = l.count;
            put(tell);
            return 1;
        }
        if (me.status != 2 || me.nonce != l.count) {
            return 0;
        }
        me.tales.put(l.from, l);
        if (me.tales.size() >= f + 1) {
            int v = me.tales.values().stream().mapToInt(t -> t.view).max().getAsInt();
            for (L t : me.tales.values()) {
                if (t.from == v % n && t.view == v) {
                    me.log = new ArrayList<>(t.log);
                    me.sure = t.sure;
                    me.view = v;
                    me.lastView = v;
                    me.status = 0;
                }
            }
        }
        return 1;
    }

    private void elect(int i) {
        Nd me = nodes.get(i);
        List<L> all = new ArrayList<>(me.votes.values());
        all.sort((p, q) -> {
            if (p.count != q.count) {
                return q.count - p.count;
            }
            return p.log.size() != q.log.size() ? q.log.size() - p.log.size() : p.from - q.from;
        });
        me.log = new ArrayList<>(all.get(0).log);
        int most = all.stream().mapToInt(l -> l.sure).max().getAsInt();
        me.sure = Math.min(most, me.log.size());
        me.status = 0;
        me.lastView = me.view;
        me.known.clear();
        toAll(i, 5);
    }

    int drop(int i) {
        if (i < 0 || i >= pool.size() || pool.get(i).dropped) {
            return BAD;
        }
        pool.get(i).dropped = true;
        return 1;
    }

    int cut(int i, int j, boolean on) {
        if (noNode(i) || noNode(j) || i == j) {
            return BAD;
        }
        String line = Math.min(i, j) + "-" + Math.max(i, j);
        boolean was = cut.contains(line);
        if (on) {
            cut.add(line);
        } else {
            cut.remove(line);
        }
        return was ? 1 : 0;
    }

    int timeout(int i) {
        if (noNode(i)) {
            return BAD;
        }
        if (nodes.get(i).status >= 2) {
            return STATE;
        }
        if (nodes.get(i).view == 1000) {
            return FULL;
        }
        change(i, nodes.get(i).view + 1);
        return nodes.get(i).view;
    }

    int resend(int i) {
        if (noNode(i)) {
            return BAD;
        }
        Nd me = nodes.get(i);
        if (me.status == 3) {
            return STATE;
        }
        int before = pool.size() + lost;
        boolean first = me.view % n == i;
        if (me.status == 0 && first) {
            toAll(i, 1);
        } else if (me.status == 0) {
            ok(i);
        } else if (me.status == 1) {
            toAll(i, 3);
            if (me.voted && !first) {
                put(voteOf(i));
            }
        } else {
            toAll(i, 6);
        }
        return pool.size() + lost - before;
    }

    int crash(int i) {
        if (noNode(i)) {
            return BAD;
        }
        if (nodes.get(i).status == 3) {
            return STATE;
        }
        int had = nodes.get(i).log.size();
        nodes.set(i, new Nd());
        nodes.get(i).status = 3;
        return had;
    }

    int recover(int i, int nonce) {
        if (noNode(i) || nonce < 0 || nonce > 1000000) {
            return BAD;
        }
        Nd me = nodes.get(i);
        if (me.status != 3) {
            return STATE;
        }
        me.status = 2;
        me.nonce = nonce;
        toAll(i, 6);
        return 1;
    }

    int node(int i, int what) {
        if (noNode(i) || what < 0 || what > 8) {
            return BAD;
        }
        Nd me = nodes.get(i);
        boolean changing = me.status == 1;
        int[] all = {me.status, me.view, me.lastView, me.log.size(), me.sure, changing ? me.voters.size() : 0,
            changing ? me.votes.size() : 0, changing && me.voted ? 1 : 0, me.status == 2 ? me.tales.size() : 0};
        return all[what];
    }

    int entry(int node, int i, int what) {
        if (noNode(node) || i < 1 || i > nodes.get(node).log.size() || what < 0 || what > 5) {
            return Integer.MIN_VALUE;
        }
        return nodes.get(node).log.get(i - 1).get(what);
    }

    int register(int node, int r) {
        if (noNode(node) || r < 0 || r > 7) {
            return Integer.MIN_VALUE;
        }
        int[] reg = new int[8];
        for (List<Integer> e : nodes.get(node).log.subList(0, nodes.get(node).sure)) {
            int a = e.get(3), b = e.get(4), v = e.get(5);
            if (e.get(2) == 0) {
                reg[a] = v;
            } else if (e.get(2) == 1) {
                reg[a] = reg[a] + v;
            } else if (reg[a] >= v) {
                reg[a] = reg[a] - v;
                reg[b] = reg[b] + v;
            }
        }
        return reg[r];
    }

    int known(int node, int other) {
        if (noNode(node) || noNode(other) || node == other) {
            return BAD;
        }
        Nd me = nodes.get(node);
        return me.status != 0 || me.view % n != node ? STATE : me.known.getOrDefault(other, 0);
    }

    int letter(int i, int what) {
        if (i < 0 || i >= pool.size() || what < 0 || what > 7) {
            return BAD;
        }
        L l = pool.get(i);
        return new int[] {l.from, l.to, l.sort, l.view, l.log.size(), l.sure, l.count, l.dropped ? 1 : 0}[what];
    }

    int count(int what) {
        switch (what) {
            case 0: return pool.size();
            case 1: return (int) pool.stream().filter(l -> l.dropped).count();
            case 2: return lost;
            case 3: return cut.size();
            case 4: return (int) nodes.stream().filter(x -> x.status == 0).count();
            default: return BAD;
        }
    }

    int unlike() {
        for (int i = 0; i < n; i++) {
            for (int j = i + 1; j < n; j++) {
                int least = Math.min(nodes.get(i).sure, nodes.get(j).sure);
                if (!nodes.get(i).log.subList(0, least).equals(nodes.get(j).log.subList(0, least))) {
                    return 10 * i + j;
                }
            }
        }
        return -1;
    }

    long digest() {
        List<Integer> all = new ArrayList<>();
        for (int i = 0; i < n; i++) {
            for (int what = 0; what <= 8; what++) {
                all.add(node(i, what));
            }
            for (List<Integer> e : nodes.get(i).log) {
                all.addAll(e);
            }
            for (int r = 0; r < 8; r++) {
                all.add(register(i, r));
            }
        }
        for (int i = 0; i < pool.size(); i++) {
            for (int what = 0; what <= 7; what++) {
                all.add(letter(i, what));
            }
        }
        long h = 17;
        for (int each : all) {
            h = 31 * h + each;
        }
        return h;
    }
}
