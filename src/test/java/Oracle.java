import java.util.ArrayList;
import java.util.Arrays;
import java.util.HashMap;
import java.util.HashSet;
import java.util.List;
import java.util.Map;
import java.util.Set;
import java.util.TreeMap;

/**
 * A second telling of the document, slow and plain: COUNTS are made anew from the ROOTS whenever they are asked,
 * and what is WRITTEN is found by comparing. It holds one STORE and does its ACTS.
 */
final class Oracle {
    static final class Node {
        int level;
        List<int[]> entries = new ArrayList<>();

        Node twin() {
            Node other = new Node();
            other.level = level;
            for (int[] e : entries) {
                other.entries.add(e.clone());
            }
            return other;
        }

        boolean like(Node other) {
            if (level != other.level || entries.size() != other.entries.size()) {
                return false;
            }
            for (int i = 0; i < entries.size(); i++) {
                if (!Arrays.equals(entries.get(i), other.entries.get(i))) {
                    return false;
                }
            }
            return true;
        }
    }

    /** The ACT can't be. */
    static final class Cannot extends RuntimeException {
        private static final long serialVersionUID = 1L;
    }

    static final int EMPTY = 254;
    static final int ABSENT = 255;

    final int blocks;
    final int room;
    final String picks;
    final String splits;
    final String costs;
    final int churn;
    Node[] nodes;
    int[] roots = new int[8];
    int[] savedRoots = new int[8];
    int cost;
    long x = 1;
    final List<int[]> kept = new ArrayList<>();
    final List<Object[]> past = new ArrayList<>();
    private Set<Integer> written = new HashSet<>();

    Oracle(int blocks, int room, String picks, String splits, String costs, int churn) {
        this.blocks = blocks;
        this.room = room;
        this.picks = picks;
        this.splits = splits;
        this.costs = costs;
        this.churn = churn;
        nodes = new Node[blocks];
        for (int b = 0; b < blocks; b++) {
            nodes[b] = new Node();
        }
        Arrays.fill(roots, ABSENT);
        Arrays.fill(savedRoots, ABSENT);
    }

    // ---- COUNTS

    int[] counts(int[] from) {
        int[] count = new int[blocks];
        List<Integer> open = new ArrayList<>();
        for (int root : from) {
            if (root < EMPTY && count[root]++ == 0) {
                open.add(root);
            }
        }
        while (!open.isEmpty()) {
            Node node = nodes[open.remove(open.size() - 1)];
            if (node.level > 0) {
                for (int[] e : node.entries) {
                    if (count[e[1]]++ == 0) {
                        open.add(e[1]);
                    }
                }
            }
        }
        return count;
    }

    int[] now() {
        return counts(roots);
    }

    int[] then() {
        return counts(savedRoots);
    }

    static int above0(int[] count) {
        int n = 0;
        for (int c : count) {
            n += c > 0 ? 1 : 0;
        }
        return n;
    }

    boolean isVolume(int v) {
        return v >= 0 && v < 8 && roots[v] != ABSENT;
    }

    // ---- blocks are taken, owned, split

    private int take(int level, int from) {
        int[] now = now();
        int[] then = then();
        int best = -1;
        long least = 0;
        for (int b = 0; b < blocks; b++) {
            if (now[b] == 0 && then[b] == 0) {
                long sum = picks == null ? b : new Formula(picks).sum(Map.of("block", b, "level", level, "from", from));
                if (best < 0 || sum < least) {
                    best = b;
                    least = sum;
                }
            }
        }
        if (best < 0) {
            throw new Cannot();
        }
        nodes[best] = new Node();
        nodes[best].level = level;
        written.add(best);
        return best;
    }

    /** holder[1] is a reference to a block; behind this it is to one that may be changed. */
    private int own(int b) {
        if (now()[b] == 1 && then()[b] == 0) {
            return b;
        }
        int copy = take(nodes[b].level, b);
        nodes[copy] = nodes[b].twin();
        return copy;
    }

    private boolean mustSplit(int b) {
        int n = nodes[b].entries.size();
        return n == room || n >= 2 && splits != null
            && new Formula(splits).test(Map.of("level", nodes[b].level, "entries", n));
    }

    private int split(int above, int k, int b, int key) {
        int half = take(nodes[b].level, b);
        List<int[]> all = nodes[b].entries;
        int n = all.size();
        nodes[half].entries = new ArrayList<>(all.subList(n - n / 2, n));
        nodes[b].entries = new ArrayList<>(all.subList(0, n - n / 2));
        int first = nodes[half].entries.get(0)[0];
        nodes[above].entries.add(k + 1, new int[] {first, half});
        return first <= key ? half : b;
    }

    private int entryFor(int b, int key) {
        int n = nodes[b].entries.size();
        for (int k = n - 1; k > 0; k--) {
            if (nodes[b].entries.get(k)[0] <= key) {
                return k;
            }
        }
        return 0;
    }

    private void putInto(int v, int key, int value) {
        if (roots[v] == EMPTY) {
            int b = take(0, 48);
            nodes[b].entries.add(new int[] {key, value});
            roots[v] = b;
            return;
        }
        roots[v] = own(roots[v]);
        int b = roots[v];
        if (mustSplit(b)) {
            int top = take(nodes[b].level + 1, b);
            nodes[top].entries.add(new int[] {nodes[b].entries.get(0)[0], b});
            roots[v] = top;
            b = split(top, 0, b, key);
        }
        while (nodes[b].level > 0) {
            int k = entryFor(b, key);
            int[] e = nodes[b].entries.get(k);
            e[1] = own(e[1]);
            b = mustSplit(e[1]) ? split(b, k, e[1], key) : e[1];
        }
        List<int[]> low = nodes[b].entries;
        low.removeIf(e -> e[0] == key);
        low.add(new int[] {key, value});
        low.sort((one, other) -> Integer.compare(one[0], other[0]));
    }

    private void takeOut(int v, int key) {
        if (!content(roots[v]).containsKey(key)) {
            throw new Cannot();
        }
        List<Integer> way = new ArrayList<>();
        roots[v] = own(roots[v]);
        way.add(roots[v]);
        int b = roots[v];
        while (nodes[b].level > 0) {
            int[] e = nodes[b].entries.get(entryFor(b, key));
            e[1] = own(e[1]);
            b = e[1];
            way.add(b);
        }
        nodes[b].entries.removeIf(e -> e[0] == key);
        for (int i = way.size() - 1; i > 0; i--) {
            int gone = way.get(i);
            if (nodes[gone].entries.isEmpty()) {
                nodes[way.get(i - 1)].entries.removeIf(e -> e[1] == gone);
            }
        }
        if (nodes[roots[v]].entries.isEmpty()) {
            roots[v] = EMPTY;
        }
        while (roots[v] != EMPTY && nodes[roots[v]].level > 0 && nodes[roots[v]].entries.size() == 1) {
            roots[v] = nodes[roots[v]].entries.get(0)[1];
        }
    }

    // ---- ACTS

    private Object[] snapshot() {
        Node[] twins = new Node[blocks];
        for (int b = 0; b < blocks; b++) {
            twins[b] = nodes[b].twin();
        }
        return new Object[] {twins, roots.clone(), savedRoots.clone(), cost, new HashSet<>(written)};
    }

    private void restore(Object[] snapshot) {
        Node[] twins = (Node[]) snapshot[0];
        for (int b = 0; b < blocks; b++) {
            nodes[b] = twins[b].twin();
        }
        roots = ((int[]) snapshot[1]).clone();
        savedRoots = ((int[]) snapshot[2]).clone();
        cost = (Integer) snapshot[3];
        written = new HashSet<>();
        for (Object b : (Set<?>) snapshot[4]) {
            written.add((Integer) b);
        }
    }

    /** One PUT (value from 0 on) or REMOVE, whole or not at all. */
    boolean change(int v, int key, int value) {
        Object[] before = snapshot();
        Node[] old = (Node[]) before[0];
        int[] oldCounts = now();
        try {
            if (value >= 0) {
                putInto(v, key, value);
            } else {
                takeOut(v, key);
            }
        } catch (Cannot e) {
            restore(before);
            return false;
        }
        int[] newCounts = now();
        for (int b = 0; b < blocks; b++) {
            if (oldCounts[b] > 0 && newCounts[b] > 0 && !old[b].like(nodes[b])) {
                written.add(b);
            }
        }
        return true;
    }

    private int wrote() {
        int[] now = now();
        int n = 0;
        for (int b : written) {
            n += now[b] > 0 ? 1 : 0;
        }
        return n;
    }

    private int price() {
        int[] now = now();
        int sum = 0;
        for (int b : written) {
            if (now[b] > 0) {
                long one = costs == null ? 1 : new Formula(costs).sum(
                    Map.of("block", b, "level", nodes[b].level, "entries", nodes[b].entries.size()));
                sum += (int) Math.max(0, Math.min(99, one));
            }
        }
        return sum;
    }

    private int close(Object[] before, int act, int volume) {
        cost = Math.min(999999, cost + price());
        int wrote = wrote();
        kept.add(new int[] {act, volume, wrote});
        past.add(before);
        if (past.size() > 20) {
            past.remove(0);
        }
        return wrote;
    }

    private Object[] open() {
        Object[] before = snapshot();
        written = new HashSet<>();
        return before;
    }

    int put(int v, int key, int value) {
        if (!isVolume(v) || key < 0 || key > 999 || value < 0 || value > 999) {
            return -1;
        }
        Object[] before = open();
        return change(v, key, value) ? close(before, 0, v) : -1;
    }

    int remove(int v, int key) {
        if (!isVolume(v)) {
            return -1;
        }
        Object[] before = open();
        return change(v, key, -1) ? close(before, 1, v) : -1;
    }

    int copy(int v) {
        int fresh = 0;
        while (fresh < 8 && roots[fresh] != ABSENT) {
            fresh++;
        }
        if (!isVolume(v) || fresh == 8) {
            return -1;
        }
        Object[] before = open();
        roots[fresh] = roots[v];
        close(before, 2, fresh);
        return fresh;
    }

    int drop(int v) {
        if (!isVolume(v)) {
            return -1;
        }
        Object[] before = open();
        int used = above0(now());
        roots[v] = ABSENT;
        close(before, 3, v);
        return used - above0(now());
    }

    int checkpoint() {
        Object[] before = open();
        int held = held();
        savedRoots = roots.clone();
        close(before, 4, 255);
        return held;
    }

    int crash() {
        Object[] before = open();
        int fresh = fresh();
        roots = savedRoots.clone();
        close(before, 5, 255);
        return fresh;
    }

    int held() {
        int[] now = now();
        int[] then = then();
        int n = 0;
        for (int b = 0; b < blocks; b++) {
            n += now[b] == 0 && then[b] > 0 ? 1 : 0;
        }
        return n;
    }

    int fresh() {
        int[] now = now();
        int[] then = then();
        int n = 0;
        for (int b = 0; b < blocks; b++) {
            n += now[b] > 0 && then[b] == 0 ? 1 : 0;
        }
        return n;
    }

    private int draw(int m) {
        x = (1103515245L * x + 12345L) % 2147483648L;
        return (int) (x / 64 % m);
    }

    int chance(int n) {
        Object[] before = open();
        int done = 0;
        for (int i = 0; i < n; i++) {
            if (draw(100) < churn) {
                savedRoots = roots.clone();
            }
            List<Integer> there = new ArrayList<>();
            for (int v = 0; v < 8; v++) {
                if (isVolume(v)) {
                    there.add(v);
                }
            }
            if (!there.isEmpty()) {
                int v = there.get(draw(there.size()));
                int what = draw(3);
                int key = draw(40);
                done += change(v, key, what < 2 ? draw(100) : -1) ? 1 : 0;
            }
        }
        close(before, 6, 255);
        return done;
    }

    boolean undo() {
        if (past.isEmpty()) {
            return false;
        }
        restore(past.remove(past.size() - 1));
        kept.remove(kept.size() - 1);
        return true;
    }

    // ---- what is asked

    TreeMap<Integer, Integer> content(int root) {
        TreeMap<Integer, Integer> all = new TreeMap<>();
        for (int b : tree(root)) {
            if (nodes[b].level == 0) {
                for (int[] e : nodes[b].entries) {
                    all.put(e[0], e[1]);
                }
            }
        }
        return all;
    }

    Set<Integer> tree(int root) {
        Set<Integer> all = new HashSet<>();
        if (root < EMPTY) {
            all.add(root);
            if (nodes[root].level > 0) {
                for (int[] e : nodes[root].entries) {
                    all.addAll(tree(e[1]));
                }
            }
        }
        return all;
    }

    List<Integer> unlike(int one, int other) {
        TreeMap<Integer, Integer> a = content(one);
        TreeMap<Integer, Integer> b = content(other);
        List<Integer> keys = new ArrayList<>();
        for (int key = 0; key < 1000; key++) {
            if (!java.util.Objects.equals(a.get(key), b.get(key))) {
                keys.add(key);
            }
        }
        return keys;
    }

    int freedWith(int v) {
        int used = above0(now());
        int old = roots[v];
        roots[v] = ABSENT;
        int freed = used - above0(now());
        roots[v] = old;
        return freed;
    }

    /** How many BLOCKS a put would write, and what it would cost; null when it can't be. */
    int[] writes(int v, int key) {
        Object[] before = open();
        int[] answer = null;
        Integer has = content(roots[v]).get(key);
        if (change(v, key, has == null ? 7 : (has + 1) % 1000)) {
            answer = new int[] {wrote(), price()};
        }
        restore(before);
        return answer;
    }

    int lost(int b) {
        int n = 0;
        for (int v = 0; v < 8; v++) {
            if (isVolume(v) && tree(roots[v]).contains(b)) {
                n += content(b).size();
            }
        }
        return n;
    }

    long question(String what, String formula) {
        int[] now = now();
        int[] then = then();
        long first = -1;
        long last = -1;
        long often = 0;
        long total = 0;
        long most = Long.MIN_VALUE;
        long least = Long.MAX_VALUE;
        Formula f = new Formula(formula).looking(
            b -> b >= 0 && b < blocks ? now[b] : 0,
            b -> b >= 0 && b < blocks && now[b] > 0 ? nodes[b].entries.get(0)[0] : 0);
        boolean test = what.equals("first") || what.equals("last") || what.equals("often");
        for (int b = 0; b < blocks; b++) {
            boolean there = now[b] > 0 || then[b] > 0;
            Map<String, Integer> facts = new HashMap<>();
            facts.put("number", b);
            facts.put("count", now[b]);
            facts.put("level", there ? nodes[b].level : 0);
            facts.put("entries", there ? nodes[b].entries.size() : 0);
            facts.put("fresh", now[b] > 0 && then[b] == 0 ? 1 : 0);
            facts.put("saved", then[b]);
            if (test) {
                if (f.test(facts)) {
                    first = first < 0 ? b : first;
                    last = b;
                    often++;
                }
            } else {
                long value = f.sum(facts);
                total += value;
                most = Math.max(most, value);
                least = Math.min(least, value);
            }
        }
        return Map.of("first", first, "last", last, "often", often, "total", total, "most", most, "least", least).get(what);
    }

    byte[] image() {
        int[] now = now();
        int[] then = then();
        List<Integer> all = new ArrayList<>(List.of(cost / 65536, cost / 256 % 256, cost % 256));
        for (int v = 0; v < 8; v++) {
            all.add(roots[v]);
            all.add(savedRoots[v]);
        }
        for (int b = 0; b < blocks; b++) {
            all.add(now[b]);
            all.add(then[b]);
            if (now[b] + then[b] > 0) {
                all.add(nodes[b].level);
                all.add(nodes[b].entries.size());
                for (int[] e : nodes[b].entries) {
                    all.addAll(List.of(e[0] / 256, e[0] % 256, e[1] / 256, e[1] % 256));
                }
            }
        }
        all.add(0);
        byte[] bytes = new byte[all.size()];
        for (int i = 0; i < bytes.length; i++) {
            bytes[i] = (byte) (int) all.get(i);
        }
        return Check.sealed(bytes);
    }

    /** Takes an image for its own if it is one; a second telling of what on() looks at. */
    boolean load(byte[] bytes) {
        if (bytes.length < 20 || !Arrays.equals(bytes, Check.sealed(bytes))) {
            return false;
        }
        int[] u = new int[bytes.length];
        for (int i = 0; i < u.length; i++) {
            u[i] = bytes[i] & 255;
        }
        Oracle other = new Oracle(blocks, room, picks, splits, costs, churn);
        int[] now = new int[blocks];
        int[] then = new int[blocks];
        other.cost = u[0] * 65536 + u[1] * 256 + u[2];
        for (int v = 0; v < 8; v++) {
            other.roots[v] = u[3 + 2 * v];
            other.savedRoots[v] = u[4 + 2 * v];
        }
        int at = 19;
        int end = u.length - 1;
        for (int b = 0; b < blocks; b++) {
            if (at + 2 > end) {
                return false;
            }
            now[b] = u[at++];
            then[b] = u[at++];
            if (now[b] + then[b] > 0) {
                if (at + 2 > end) {
                    return false;
                }
                other.nodes[b].level = u[at++];
                int n = u[at++];
                if (n < 1 || n > room || at + 4 * n > end) {
                    return false;
                }
                for (int k = 0; k < n; k++) {
                    other.nodes[b].entries.add(new int[] {u[at] * 256 + u[at + 1], u[at + 2] * 256 + u[at + 3]});
                    at += 4;
                }
            }
        }
        if (at != end || other.cost > 999999 || !other.sound(now, then)) {
            return false;
        }
        nodes = other.nodes;
        roots = other.roots;
        savedRoots = other.savedRoots;
        cost = other.cost;
        kept.clear();
        past.clear();
        return true;
    }

    private boolean sound(int[] now, int[] then) {
        for (int v = 0; v < 8; v++) {
            if (roots[v] < EMPTY && roots[v] >= blocks || savedRoots[v] < EMPTY && savedRoots[v] >= blocks) {
                return false;
            }
        }
        for (int b = 0; b < blocks; b++) {
            List<int[]> es = nodes[b].entries;
            for (int k = 0; k < es.size(); k++) {
                int key = es.get(k)[0];
                int value = es.get(k)[1];
                int after = k + 1 < es.size() ? es.get(k + 1)[0] : 1000;
                if (key > 999 || after > 1000 || value > 999) {
                    return false;
                }
                if (nodes[b].level == 0 ? key >= after : k > 0 && key >= after) {
                    return false;
                }
                if (nodes[b].level > 0 && (value >= blocks || nodes[value].entries.isEmpty()
                    || nodes[value].level != nodes[b].level - 1)) {
                    return false;
                }
            }
        }
        for (int b = 0; b < blocks; b++) {
            List<int[]> es = nodes[b].entries;
            for (int k = 0; k < es.size() && nodes[b].level > 0; k++) {
                for (int low : content(es.get(k)[1]).keySet()) {
                    if (k > 0 && low < es.get(k)[0] || k + 1 < es.size() && low >= es.get(k + 1)[0]) {
                        return false;
                    }
                }
            }
        }
        return Arrays.equals(now, tally(roots, now)) && Arrays.equals(then, tally(savedRoots, then));
    }

    private int[] tally(int[] from, int[] told) {
        int[] count = new int[blocks];
        for (int root : from) {
            if (root < EMPTY) {
                count[root]++;
            }
        }
        for (int b = 0; b < blocks; b++) {
            if (told[b] > 0 && nodes[b].level > 0) {
                for (int[] e : nodes[b].entries) {
                    count[e[1]]++;
                }
            }
        }
        return count;
    }

    Map<Integer, Map<Integer, Integer>> contents() {
        Map<Integer, Map<Integer, Integer>> all = new HashMap<>();
        for (int v = 0; v < 8; v++) {
            if (isVolume(v)) {
                all.put(v, content(roots[v]));
            }
        }
        return all;
    }
}
