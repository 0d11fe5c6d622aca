import java.util.ArrayList;
import java.util.Arrays;
import java.util.List;
import java.util.Map;
import java.util.Random;
import java.util.Set;
import java.util.TreeMap;

/** Long runs made up by chance, each answer held against the Oracle's. */
public final class OracleTest {
    private static final String[] NAMES = {"a", "bb", "ccc", "dddd", "eeeee", "ffffff", "first", "total"};
    private static final String[] ASKED = {"number", "count", "level", "entries", "fresh", "saved", "refs", "key"};

    private OracleTest() {
    }

    public static void main(String[] args) {
        int runs = args.length > 0 ? Integer.parseInt(args[0]) : 400;
        for (int run = 0; run < runs && Check.wrongs() == 0; run++) {
            oneRun(new Random(run * 7919L + 17), run);
        }
        Check.close();
    }

    private static void oneRun(Random r, int run) {
        CloneVolumes x = new CloneVolumes();
        Oracle o = makeStore(x, r, run);
        sameImage(x, o, run + ": the store");
        int seed = r.nextInt(Integer.MAX_VALUE);
        x.seed(seed);
        o.x = seed;
        List<byte[]> images = new ArrayList<>();
        int[] rows = {};
        int keys = r.nextBoolean() ? 40 : 12;
        for (int i = 0; i < 90 && Check.wrongs() == 0; i++) {
            String at = run + "." + i + ": ";
            rows = act(x, o, r, keys, at, images, rows);
            sameImage(x, o, at);
            someAnswers(x, o, r, keys, at, rows);
        }
    }

    private static Oracle makeStore(CloneVolumes x, Random r, int run) {
        int blocks = 8 + (r.nextInt(3) == 0 ? r.nextInt(6) : r.nextInt(41));
        int room = 3 + r.nextInt(4);
        String picks = r.nextInt(3) == 0 ? null : Formula.someSum(r, 3, "block", "from", "level");
        String splits = r.nextInt(3) == 0 ? null : Formula.someTest(r, 3, "entries", "level");
        String costs = r.nextInt(3) == 0 ? null : Formula.someSum(r, 3, "block", "entries", "level");
        int churn = r.nextInt(3) == 0 ? 0 : r.nextInt(101);
        Oracle o = new Oracle(blocks, room, picks, splits, costs, churn);
        List<String> text = new ArrayList<>();
        int volumes = 0;
        int changes = 10 + r.nextInt(40);
        for (int i = 0; i < changes; i++) {
            int what = volumes == 0 ? 0 : r.nextInt(12);
            if (what == 0 && volumes < 5) {
                text.add("volume " + NAMES[volumes]);
                o.roots[volumes++] = Oracle.EMPTY;
            } else if (what == 1 && volumes < 5) {
                int source = r.nextInt(volumes);
                text.add("clone " + NAMES[volumes] + " of " + NAMES[source]);
                o.roots[volumes++] = o.roots[source];
            } else if (what < 10) {
                int v = r.nextInt(volumes);
                int key = r.nextInt(30);
                int value = r.nextInt(1000);
                text.add("put " + NAMES[v] + " " + key + " " + value);
                o.change(v, key, value);
            } else {
                int v = r.nextInt(volumes);
                int key = r.nextInt(30);
                text.add("remove " + NAMES[v] + " " + key);
                o.change(v, key, -1);
            }
        }
        o.savedRoots = o.roots.clone();
        o.cost = 0;
        addFormula(text, r, "picks", picks);
        addFormula(text, r, "splits", splits);
        addFormula(text, r, "costs", costs);
        text.add("churn " + churn);
        StringBuilder all = new StringBuilder("blocks " + blocks + " room " + room + ";");
        for (String statement : text) {
            all.append(statement).append(r.nextBoolean() ? " ;\n" : ";");
        }
        if (all.length() > 1600) {
            return makeStore(x, r, run);
        }
        Check.due(run + ": store() of " + all, Check.store(x, all.toString()), text.size() + 1);
        return o;
    }

    private static void addFormula(List<String> text, Random r, String word, String formula) {
        if (formula != null) {
            text.add(r.nextInt(text.size() + 1), word + " " + formula);
        }
    }

    private static void sameImage(CloneVolumes x, Oracle o, String at) {
        byte[] got = Check.image(x);
        byte[] want = o.image();
        Check.due(at + " image is the Oracle's", Arrays.equals(got, want), true);
    }

    private static int[] act(CloneVolumes x, Oracle o, Random r, int keys, String at, List<byte[]> images, int[] rows) {
        int v = r.nextInt(20) == 0 ? r.nextInt(10) - 1 : r.nextInt(5);
        int key = r.nextInt(keys);
        switch (r.nextInt(24)) {
            case 0: Check.due(at + "copy", x.copy(v), o.copy(v)); break;
            case 1: Check.due(at + "drop", x.drop(v), o.drop(v)); break;
            case 2: Check.due(at + "checkpoint", x.checkpoint(), o.checkpoint()); break;
            case 3: Check.due(at + "crash", x.crash(), o.crash()); break;
            case 4:
                int n = 1 + r.nextInt(40);
                Check.due(at + "chance", x.chance(n), o.chance(n));
                break;
            case 5:
            case 6:
                for (int i = r.nextInt(3) == 0 ? 22 : 1; i > 0; i--) {
                    Check.due(at + "undo", x.undo(), o.undo());
                }
                break;
            case 7: images.add(Check.image(x)); break;
            case 8:
                if (!images.isEmpty()) {
                    load(x, o, r, images.get(r.nextInt(images.size())), at);
                }
                break;
            case 9:
                int[] seen = new int[2 * (1 + r.nextInt(2))];
                for (int i = 0; i < seen.length; i += 2) {
                    seen[i] = r.nextInt(keys);
                    int has = x.read(v, seen[i]);
                    seen[i + 1] = r.nextInt(4) == 0 ? r.nextInt(1001) : has < 0 ? 1000 : has;
                }
                Check.due(at + "see", Check.see(x, seen), seen.length / 2);
                return seen;
            case 10:
            case 11:
            case 12:
            case 13:
            case 14: Check.due(at + "remove", x.remove(v, key), o.remove(v, key)); break;
            case 15:
                int has = x.read(v, key);
                Check.due(at + "put the same", x.put(v, key, has), o.put(v, key, has));
                break;
            default:
                int value = r.nextInt(1000);
                Check.due(at + "put", x.put(v, key, value), o.put(v, key, value));
        }
        return rows;
    }

    /** An image as it is, or with one or two bytes changed. */
    private static void load(CloneVolumes x, Oracle o, Random r, byte[] image, String at) {
        byte[] bytes = image.clone();
        for (int i = r.nextInt(3); i > 0; i--) {
            int k = r.nextInt(bytes.length);
            bytes[k] = (byte) (r.nextBoolean() ? r.nextInt(256) : bytes[k] + r.nextInt(3) - 1);
        }
        if (r.nextInt(8) == 0) {
            bytes = Arrays.copyOf(bytes, Math.max(0, bytes.length + r.nextInt(5) - 2));
        }
        if (bytes.length > 0 && r.nextInt(10) > 0) {
            bytes = Check.sealed(bytes);
        }
        Check.due(at + "on", Check.on(x, bytes), o.load(bytes));
    }

    private static void someAnswers(CloneVolumes x, Oracle o, Random r, int keys, String at, int[] rows) {
        counted(x, o, at);
        int v = r.nextInt(9) - 1;
        int w = r.nextInt(8);
        ofVolume(x, o, r, v, r.nextInt(keys), at);
        if (o.isVolume(v)) {
            takes(x, o, r, v, at);
        }
        boolean both = o.isVolume(v) && o.isVolume(w);
        List<Integer> unlike = both ? o.unlike(o.roots[v], o.roots[w]) : null;
        int k = r.nextInt(6) - 2;
        Check.due(at + "differs", x.differs(v, w, k), kth(unlike, k));
        int shared = -1;
        if (both) {
            Set<Integer> one = o.tree(o.roots[v]);
            one.retainAll(o.tree(o.roots[w]));
            shared = one.size();
        }
        Check.due(at + "shared", x.shared(v, w), shared);
        boolean saved = o.isVolume(v) && o.savedRoots[v] != Oracle.ABSENT;
        Check.due(at + "back", x.back(v), saved ? o.unlike(o.roots[v], o.savedRoots[v]).size() : -1);
        blocks(x, o, r, at);
        seen(x, o, rows, at);
        question(x, o, r, at);
        kept(x, o, r, at);
    }

    private static int kth(List<Integer> list, int k) {
        if (list == null || k < -1 || k >= list.size()) {
            return -1;
        }
        return k == -1 ? list.size() : list.get(k);
    }

    private static void counted(CloneVolumes x, Oracle o, String at) {
        int used = Oracle.above0(o.now());
        Check.due(at + "has 0", x.has(0), o.blocks);
        Check.due(at + "has 1", x.has(1), o.contents().size());
        Check.due(at + "has 2", x.has(2), used);
        Check.due(at + "has 3", x.has(3), o.held());
        Check.due(at + "has 4", x.has(4), o.blocks - used - o.held());
        Check.due(at + "has 5", x.has(5), o.cost);
        Check.due(at + "has 6", x.has(6), Math.min(40, o.kept.size()));
        Check.due(at + "has 8", x.has(8), o.past.size());
        Check.due(at + "room 0", x.room(0), o.blocks - used - o.held());
        Check.due(at + "room 1", x.room(1), o.blocks - used);
        Check.due(at + "room 2", x.room(2), o.blocks - Oracle.above0(o.then()));
    }

    private static void ofVolume(CloneVolumes x, Oracle o, Random r, int v, int key, String at) {
        boolean there = o.isVolume(v);
        int root = there ? o.roots[v] : Oracle.EMPTY;
        TreeMap<Integer, Integer> all = o.content(root);
        boolean empty = root >= Oracle.EMPTY;
        Check.due(at + "volume 0", x.volume(v, 0), empty ? -1 : root);
        Check.due(at + "volume 1", x.volume(v, 1), there ? all.size() : -1);
        Check.due(at + "volume 2", x.volume(v, 2), there ? empty ? 0 : o.nodes[root].level + 1 : -1);
        Check.due(at + "volume 3", x.volume(v, 3), there ? o.tree(root).size() : -1);
        Check.due(at + "volume 4", x.volume(v, 4), there ? o.freedWith(v) : -1);
        Check.due(at + "read", x.read(v, key), all.getOrDefault(key, -1));
        int k = r.nextInt(20) - 1;
        Check.due(at + "key", x.key(v, k), k < 0 || k >= all.size() ? -1 : new ArrayList<>(all.keySet()).get(k));
        int from = r.nextInt(40);
        int to = from + r.nextInt(20);
        int total = all.subMap(from, true, to, true).values().stream().mapToInt(i -> i).sum();
        Check.due(at + "total", x.total(v, from, to), there ? total : -1);
    }

    private static void takes(CloneVolumes x, Oracle o, Random r, int v, String at) {
        int key = r.nextInt(100);
        int[] writes = o.writes(v, key);
        Check.due(at + "writes 0", x.writes(v, key, 0), writes == null ? -1 : writes[0]);
        Check.due(at + "writes 1", x.writes(v, key, 1), writes == null ? -1 : writes[1]);
        if (r.nextInt(8) == 0) {
            int[] spread = new int[60];
            for (int i = 0; i < 100; i++) {
                int[] one = o.writes(v, i);
                spread[one == null ? 0 : one[0] + 1]++;
            }
            for (int n = -1; n < 20; n++) {
                Check.due(at + "spread " + n, x.spread(v, n), spread[n + 1]);
            }
        }
    }

    private static void blocks(CloneVolumes x, Oracle o, Random r, String at) {
        int worst = -1;
        int most = 0;
        for (int b = 0; b < o.blocks; b++) {
            int lost = o.lost(b);
            Check.due(at + "lost " + b, x.lost(b), lost);
            if (lost > most) {
                most = lost;
                worst = b;
            }
        }
        Check.due(at + "worst 0", x.worst(0), worst);
        Check.due(at + "worst 1", x.worst(1), worst < 0 ? -1 : most);
        int victim = -1;
        int freed = -1;
        for (int v = 0; v < 8; v++) {
            if (o.isVolume(v) && o.freedWith(v) > freed) {
                freed = o.freedWith(v);
                victim = v;
            }
        }
        Check.due(at + "victim 0", x.victim(0), victim);
        Check.due(at + "victim 1", x.victim(1), freed);
        int b = r.nextInt(o.blocks);
        int[] now = o.now();
        int[] then = o.then();
        boolean there = now[b] > 0 || then[b] > 0;
        int size = there ? o.nodes[b].entries.size() : 0;
        Check.due(at + "block 0", x.block(b, 0), now[b]);
        Check.due(at + "block 1", x.block(b, 1), then[b]);
        Check.due(at + "block 2", x.block(b, 2), there ? o.nodes[b].level : 0);
        Check.due(at + "block 3", x.block(b, 3), size);
        Check.due(at + "block 4", x.block(b, 4) == 1, now[b] > 0 && then[b] == 0);
        Check.due(at + "block 5", x.block(b, 5) == 1, now[b] == 0 && then[b] > 0);
        for (int k = -1; k < 7; k++) {
            boolean is = k >= 0 && k < size;
            Check.due(at + "entry 0", x.entry(b, k, 0), is ? o.nodes[b].entries.get(k)[0] : -1);
            Check.due(at + "entry 1", x.entry(b, k, 1), is ? o.nodes[b].entries.get(k)[1] : -1);
        }
    }

    private static void seen(CloneVolumes x, Oracle o, int[] rows, String at) {
        List<Integer> fits = new ArrayList<>();
        for (Map.Entry<Integer, Map<Integer, Integer>> e : new TreeMap<>(o.contents()).entrySet()) {
            boolean fit = true;
            for (int i = 0; i < rows.length; i += 2) {
                fit = fit && e.getValue().getOrDefault(rows[i], 1000) == rows[i + 1];
            }
            if (fit) {
                fits.add(e.getKey());
            }
        }
        for (int k = -2; k < 9; k++) {
            Check.due(at + "fits " + k, x.fits(k), kth(fits, k));
        }
        int best = -1;
        int least = 99;
        for (int key = 0; key < 100 && !fits.isEmpty(); key++) {
            TreeMap<Integer, Integer> groups = new TreeMap<>();
            for (int v : fits) {
                groups.merge(o.content(o.roots[v]).getOrDefault(key, 1000), 1, Integer::sum);
            }
            int most = groups.values().stream().mapToInt(i -> i).max().orElse(0);
            if (most < least) {
                least = most;
                best = key;
            }
        }
        Check.due(at + "tells 0", x.tells(0), best);
        Check.due(at + "tells 1", x.tells(1), best < 0 ? -1 : least);
    }

    private static void question(CloneVolumes x, Oracle o, Random r, String at) {
        String[] tests = {"first", "last", "often"};
        String[] sums = {"total", "most", "least"};
        boolean test = r.nextBoolean();
        String what = (test ? tests : sums)[r.nextInt(3)];
        String formula = test ? Formula.someTest(r, 3, ASKED) : Formula.someSum(r, 3, ASKED);
        if (formula.length() < 1500) {
            Check.due(at + "ask " + what + " " + formula, Check.ask(x, what + " " + formula), o.question(what, formula));
        }
    }

    private static void kept(CloneVolumes x, Oracle o, Random r, String at) {
        int rows = Math.min(40, o.kept.size());
        int k = r.nextInt(42) - 1;
        for (int what = 0; what < 3; what++) {
            boolean is = k >= 0 && k < rows;
            Check.due(at + "kept " + k, x.kept(k, what), is ? o.kept.get(o.kept.size() - rows + k)[what] : -1);
        }
    }
}
