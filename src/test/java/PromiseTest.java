import java.util.Arrays;

/** Each promise of the document by its number: ordinary inputs, the edges it names, wrong inputs. */
public final class PromiseTest {
    private static final int NONE = CloneVolumes.NONE;
    private static final long NOTHING = CloneVolumes.NOTHING;
    private static final int[] ODD = {-1, 0, 1, 2, 3, 6, 7, 8, 10, 48, 1000, Integer.MAX_VALUE, Integer.MIN_VALUE};

    /** a: 10 .. 40 in blocks 0, 2 under 1; b: a copy with 25, so 3 over 4 and 2. */
    private static final String TWO = "blocks 12 room 3; volume a; put a 10 1; put a 20 2; put a 30 3; put a 40 4;"
        + " clone b of a; put b 25 9;";
    private static final String ONE = "blocks 8 room 3; volume v;";

    private PromiseTest() {
    }

    public static void main(String[] args) {
        p01new();
        p02feed();
        p03end();
        p04store();
        p05fault();
        p06has();
        p07letter();
        p08volume();
        p09block();
        p10entry();
        p11kept();
        p12read();
        p13key();
        p14total();
        p15path();
        p16shared();
        p17differs();
        p18writes();
        p19spread();
        p20lost();
        p21worst();
        p22victim();
        p23room();
        p24back();
        p25see();
        p26fits();
        p27tells();
        p28put();
        p29remove();
        p30copy();
        p31drop();
        p32checkpoint();
        p33crash();
        p34chance();
        p35undo();
        p36seed();
        p37ask();
        p38image();
        p39octet();
        p40on();
        p41status();
        formulas();
        Check.close();
    }

    private static CloneVolumes made(String text) {
        CloneVolumes x = new CloneVolumes();
        Check.due("store() of " + text, Check.store(x, text) > 0, true);
        return x;
    }

    private static void due(String call, long got, long want) {
        Check.due(call, got, want);
    }

    private static void due(String call, boolean got, boolean want) {
        Check.due(call, got, want);
    }

    private static void p01new() {
        CloneVolumes x = new CloneVolumes();
        for (int what = 0; what < 10; what++) {
            due("1: has(" + what + ")", x.has(what), 0);
        }
        due("1: block", x.block(0, 0), NONE);
        due("1: room", x.room(0), NONE);
        due("1: fits", x.fits(NONE), 0);
        due("1: fault", x.fault(0), 0);
        due("1: fault's place", x.fault(1), NONE);
        due("1: letter", x.letter(0, 0), NONE);
        due("1: octet", x.octet(0), NONE);
    }

    private static void p02feed() {
        CloneVolumes x = new CloneVolumes();
        for (int i = 1; i <= 80; i++) {
            due("2: feed", x.feed(i, -i, 0, Integer.MIN_VALUE, Integer.MAX_VALUE), 20 * i);
        }
        due("2: feed too much", x.feed(0, 0, 0, 0, 0), NONE);
        due("2: refused", x.status(0), 1);
        due("2: nothing came", x.end(1600), true);
        x.end(1580);
        due("2: to the last byte", x.feed(0, 0, 0, 0, 0), 1600);
        x.end(1581);
        due("2: one too many", x.feed(0, 0, 0, 0, 0), NONE);
        x = made(ONE);
        x.feed(0x66697273, 0x74206e75, 0x6d626572, 0x203e2033, 0x20202020);
        due("2: the highest byte first", x.ask(), 4);
    }

    private static void p03end() {
        CloneVolumes x = new CloneVolumes();
        due("3: end(0) of nothing", x.end(0), true);
        due("3: end(1) of nothing", x.end(1), false);
        x.feed(1, 2, 3, 4, 5);
        due("3: below 0", x.end(-1), false);
        due("3: too many", x.end(21), false);
        due("3: refused", x.status(0), 3);
        due("3: all", x.end(20), true);
        due("3: fewer", x.end(7), true);
        due("3: not so many any more", x.end(8), false);
        due("3: fed behind", x.feed(1, 2, 3, 4, 5), 27);
    }

    private static void p04store() {
        CloneVolumes x = made(TWO);
        due("4: the tape goes", x.feed(0, 0, 0, 0, 0), 20);
        Check.see(x, 10, 1);
        x.put(0, 1, 1);
        x.seed(77);
        due("4: a fault", Check.store(x, "blocks 8 room 3; volume v"), NONE);
        due("4: the tape goes all the same", x.end(1), false);
        due("4: all stays", x.has(0), 12);
        due("4: seen stays", x.has(7), 1);
        due("4: kept stays", x.has(6), 1);
        due("4: undo stays", x.has(8), 1);
        due("4: names stay", x.letter(1, 0), 2);
        due("4: refused", x.status(1), 1);
        due("4: statements", Check.store(x, ONE + "churn 0;"), 3);
        due("4: blocks", x.has(0), 8);
        due("4: volumes", x.has(1), 1);
        due("4: nothing seen", x.has(7), 0);
        due("4: nothing kept", x.has(6), 0);
        due("4: nothing undone", x.undo(), false);
        due("4: cost", x.has(5), 0);
        x.chance(1);
        int key = x.key(0, 0);
        CloneVolumes y = made(ONE);
        y.seed(77);
        y.chance(1);
        due("4: the seed stays", y.key(0, 0), key);
        x = made("blocks 8 room 3; volume v; remove v 5; put v 5 5; put v 5 6; remove v 5; put v 7 7;");
        due("4: one after the other", x.key(0, 0), 7);
        due("4: only", x.volume(0, 1), 1);
        x = made("blocks 8 room 3;volume v;put v 5 6;picks 0-block;volume w;put w 1 1;");
        due("4: picks told behind", x.volume(0, 0), 7);
        due("4: and the next", x.volume(1, 0), 6);
        due("4: a checkpoint", x.block(7, 1), 1);
        StringBuilder full = new StringBuilder("blocks 8 room 3; volume v;");
        for (int i = 0; i < 40; i++) {
            full.append("put v ").append(i).append(" 1;");
        }
        x = made(full.toString());
        due("4: what can't be is not done", x.volume(0, 1) < 40, true);
        due("4: and leaves nothing", x.has(2), x.volume(0, 3));
    }

    private static void p05fault() {
        CloneVolumes x = new CloneVolumes();
        due("5: ahead of any", x.fault(0), 0);
        due("5: no place", x.fault(1), NONE);
        Check.store(x, "blocks 8 room 9;");
        due("5: which", x.fault(0), 2);
        due("5: where", x.fault(1), 14);
        Check.ask(x, "total number");
        due("5: ask() without a store does nothing else", x.fault(0), 2);
        for (int what : ODD) {
            if (what != 0 && what != 1) {
                due("5: fault(" + what + ")", x.fault(what), NONE);
            }
        }
        Check.store(x, ONE);
        due("5: of the latest", x.fault(0), 0);
        due("5: of the latest, where", x.fault(1), NONE);
        Check.ask(x, "total block");
        due("5: of a question", x.fault(0), 1);
        due("5: of a question, where", x.fault(1), 6);
        Check.ask(x, "total number");
        due("5: none", x.fault(0), 0);
    }

    private static void p06has() {
        CloneVolumes x = made(TWO);
        x.put(0, 50, 5);
        Check.see(x, 1, 1, 2, 2);
        long[] want = {12, 2, 6, 1, 5, 3, 1, 2, 1, 3};
        x.put(0, 50, 5);
        x.undo();
        // The root 1 and leaf 2 of a are copied: 1 is HELD, 2 still b's.
        want[2] = 6;
        want[5] = 2;
        for (int what = 0; what < 10; what++) {
            due("6: has(" + what + ")", x.has(what), want[what]);
        }
        due("6: has(10)", x.has(10), NONE);
        due("6: has(-1)", x.has(-1), NONE);
        due("6: has(most)", x.has(Integer.MAX_VALUE), NONE);
        x = made("blocks 8 room 3; volume v; costs 99;");
        for (int i = 0; i < 300; i++) {
            x.put(0, 1, i);
        }
        due("6: cost", x.has(5), 300 * 99);
    }

    private static void p07letter() {
        CloneVolumes x = made("blocks 8 room 3; volume abcxyz; clone z of abcxyz;");
        int[] want = {1, 2, 3, 24, 25, 26};
        for (int k = 0; k < 6; k++) {
            due("7: letter(0, " + k + ")", x.letter(0, k), want[k]);
            due("7: letter(1, " + k + ")", x.letter(1, k), k == 0 ? 26 : 0);
        }
        due("7: behind", x.letter(0, 6), NONE);
        due("7: ahead", x.letter(0, -1), NONE);
        due("7: none told", x.letter(2, 0), NONE);
        due("7: no number", x.letter(-1, 0), NONE);
        x.copy(0);
        due("7: a copy has none", x.letter(2, 0), NONE);
        x.drop(1);
        due("7: as the text told it", x.letter(1, 0), 26);
        Check.store(x, ONE);
        due("7: of the new text", x.letter(0, 0), 22);
        due("7: no longer told", x.letter(1, 0), NONE);
    }

    private static void p08volume() {
        CloneVolumes x = made(TWO + "volume e;");
        int[][] want = {{1, 4, 2, 3, 2}, {3, 5, 2, 3, 2}, {NONE, 0, 0, 0, 0}};
        for (int v = 0; v < 3; v++) {
            for (int what = 0; what < 5; what++) {
                due("8: volume(" + v + ", " + what + ")", x.volume(v, what), want[v][what]);
            }
        }
        due("8: other what", x.volume(0, 5), NONE);
        due("8: other what", x.volume(0, -1), NONE);
        for (int v : new int[] {-1, 3, 8, Integer.MAX_VALUE, Integer.MIN_VALUE}) {
            due("8: none such", x.volume(v, 1), NONE);
        }
        x.drop(1);
        due("8: alone", x.volume(0, 4), 3);
    }

    private static void p09block() {
        CloneVolumes x = made(TWO);
        x.put(0, 50, 5);
        int[][] want = {{1, 1, 0, 2, 0, 0}, {0, 1, 1, 2, 0, 1}, {1, 2, 0, 2, 0, 0}, {1, 1, 1, 2, 0, 0}, {1, 1, 0, 3, 0, 0},
            {1, 0, 1, 2, 1, 0}, {1, 0, 0, 3, 1, 0}, {0, 0, 0, 0, 0, 0}};
        // Leaf 0 is shared by the copy of the root and by none else: b has its own, 4.
        for (int b = 0; b < want.length; b++) {
            for (int what = 0; what < 6; what++) {
                due("9: block(" + b + ", " + what + ")", x.block(b, what), want[b][what]);
            }
        }
        due("9: other what", x.block(0, 6), NONE);
        due("9: none such", x.block(12, 0), NONE);
        due("9: none such", x.block(-1, 0), NONE);
        x.drop(0);
        due("9: free again, level", x.block(5, 2), 0);
        due("9: free again, entries", x.block(5, 3), 0);
    }

    private static void p10entry() {
        CloneVolumes x = made(TWO);
        x.put(0, 50, 5);
        due("10: in use, key", x.entry(6, 2, 0), 50);
        due("10: in use, value", x.entry(6, 2, 1), 5);
        due("10: a block", x.entry(5, 1, 1), 6);
        due("10: held", x.entry(1, 1, 1), 2);
        due("10: held, key", x.entry(1, 1, 0), 30);
        due("10: free", x.entry(7, 0, 0), NONE);
        due("10: behind", x.entry(6, 3, 0), NONE);
        due("10: ahead", x.entry(6, -1, 0), NONE);
        due("10: other what", x.entry(6, 0, 2), NONE);
        due("10: no block", x.entry(12, 0, 0), NONE);
        due("10: no block", x.entry(-1, 0, 0), NONE);
    }

    private static void p11kept() {
        CloneVolumes x = made(TWO);
        x.put(0, 50, 5);
        x.remove(1, 25);
        x.copy(1);
        x.drop(1);
        x.checkpoint();
        x.crash();
        x.chance(3);
        int[][] want = {{0, 0, 2}, {1, 1, 2}, {2, 2, 0}, {3, 1, 0}, {4, 255, 0}, {5, 255, 0}};
        for (int k = 0; k < want.length; k++) {
            for (int what = 0; what < 3; what++) {
                due("11: kept(" + k + ", " + what + ")", x.kept(k, what), want[k][what]);
            }
        }
        due("11: by the seed", x.kept(6, 0), 6);
        due("11: without a volume", x.kept(6, 1), 255);
        due("11: none such", x.kept(7, 0), NONE);
        due("11: none such", x.kept(-1, 0), NONE);
        due("11: other what", x.kept(0, 3), NONE);
        due("11: refused ones are not kept", x.put(7, 1, 1), NONE);
        due("11: so still", x.has(6), 7);
        x = made(ONE);
        for (int i = 0; i < 55; i++) {
            x.put(0, 1, i);
            x.copy(0);
            x.drop(1);
        }
        due("11: the last 40", x.has(6), 40);
        due("11: the oldest told", x.kept(0, 0), 3);
        for (int i = 0; i < 20; i++) {
            x.undo();
        }
        due("11: older ones are told again", x.has(6), 40);
        due("11: the latest told", x.kept(39, 0), 0);
    }

    private static void p12read() {
        CloneVolumes x = made(TWO + "volume e;");
        due("12: there", x.read(0, 40), 4);
        due("12: in one alone", x.read(1, 25), 9);
        due("12: not in the other", x.read(0, 25), NONE);
        due("12: empty", x.read(2, 25), NONE);
        due("12: no volume", x.read(3, 10), NONE);
        due("12: no volume", x.read(-1, 10), NONE);
        due("12: no key", x.read(0, -1), NONE);
        due("12: no key", x.read(0, Integer.MAX_VALUE), NONE);
        x.put(0, 0, 0);
        x.put(0, 999, 999);
        due("12: the least", x.read(0, 0), 0);
        due("12: the greatest", x.read(0, 999), 999);
    }

    private static void p13key() {
        CloneVolumes x = made(TWO + "volume e;");
        int[] want = {10, 20, 25, 30, 40};
        for (int k = 0; k < 5; k++) {
            due("13: key(1, " + k + ")", x.key(1, k), want[k]);
        }
        due("13: behind", x.key(1, 5), NONE);
        due("13: ahead", x.key(1, -1), NONE);
        due("13: empty", x.key(2, 0), NONE);
        due("13: no volume", x.key(3, 0), NONE);
        due("13: far", x.key(1, Integer.MAX_VALUE), NONE);
    }

    private static void p14total() {
        CloneVolumes x = made(TWO + "volume e;");
        due("14: some", x.total(1, 20, 30), 14);
        due("14: both ends are in", x.total(1, 25, 25), 9);
        due("14: none between", x.total(1, 21, 24), 0);
        due("14: the other way round", x.total(1, 30, 20), 0);
        due("14: all", x.total(1, Integer.MIN_VALUE, Integer.MAX_VALUE), 19);
        due("14: empty", x.total(2, 0, 999), 0);
        due("14: no volume", x.total(3, 0, 999), NONE);
        due("14: no volume", x.total(-1, 0, 999), NONE);
    }

    private static void p15path() {
        CloneVolumes x = made(TWO + "volume e;");
        due("15: root", x.path(1, 25, 0), 3);
        due("15: leaf", x.path(1, 25, 1), 4);
        due("15: at the bound", x.path(1, 30, 1), 2);
        due("15: below the bound", x.path(1, 29, 1), 4);
        due("15: below all", x.path(1, 0, 1), 4);
        due("15: above all", x.path(1, 999, 1), 2);
        due("15: behind", x.path(1, 25, 2), NONE);
        due("15: ahead", x.path(1, 25, -1), NONE);
        due("15: no key", x.path(1, 1000, 0), NONE);
        due("15: no key", x.path(1, -1, 0), NONE);
        due("15: empty", x.path(2, 1, 0), NONE);
        due("15: no volume", x.path(3, 1, 0), NONE);
    }

    private static void p16shared() {
        CloneVolumes x = made(TWO + "volume e;clone f of b;");
        due("16: some", x.shared(0, 1), 1);
        due("16: all", x.shared(1, 3), 3);
        due("16: with itself", x.shared(0, 0), 3);
        due("16: with an empty one", x.shared(0, 2), 0);
        due("16: none such", x.shared(0, 4), NONE);
        due("16: none such", x.shared(-1, 0), NONE);
    }

    private static void p17differs() {
        CloneVolumes x = made(TWO + "volume e;");
        x.put(1, 10, 7);
        x.remove(1, 40);
        int[] want = {10, 25, 40};
        due("17: how many", x.differs(0, 1, NONE), 3);
        due("17: and back", x.differs(1, 0, NONE), 3);
        for (int k = 0; k < 3; k++) {
            due("17: differs(0, 1, " + k + ")", x.differs(0, 1, k), want[k]);
            due("17: differs(1, 0, " + k + ")", x.differs(1, 0, k), want[k]);
        }
        due("17: behind", x.differs(0, 1, 3), NONE);
        due("17: below NONE", x.differs(0, 1, -2), NONE);
        due("17: one", x.differs(0, 0, NONE), 0);
        due("17: one, first", x.differs(0, 0, 0), NONE);
        due("17: empty", x.differs(2, 0, NONE), 4);
        due("17: empty", x.differs(2, 2, NONE), 0);
        due("17: none such", x.differs(0, 3, NONE), NONE);
        due("17: none such", x.differs(-1, 0, NONE), NONE);
    }

    private static void p18writes() {
        CloneVolumes x = made(TWO + "volume e;costs level*10+entries;");
        due("18: how many", x.writes(0, 50, 0), 2);
        // A root of two entries at level 1, a leaf of three.
        due("18: what it costs", x.writes(0, 50, 1), 15);
        due("18: with a split", x.writes(1, 26, 0), 3);
        // A root of three entries at level 1, leaves [10, 20] and [25, 26].
        due("18: with a split, cost", x.writes(1, 26, 1), 17);
        due("18: into an empty one", x.writes(2, 1, 0), 1);
        due("18: into an empty one, cost", x.writes(2, 1, 1), 1);
        due("18: nothing is done", x.has(2), 5);
        due("18: nothing is kept", x.has(6), 0);
        due("18: other what", x.writes(0, 50, 2), NONE);
        due("18: no key", x.writes(0, 1000, 0), NONE);
        due("18: no key", x.writes(0, -1, 0), NONE);
        due("18: no volume", x.writes(3, 1, 0), NONE);
        x.put(2, 50, 5);
        due("18: its own already", x.writes(2, 50, 0), 1);
        x = made("blocks 8 room 3; volume v; put v 1 0; costs 1000;");
        x.put(0, 1, 1);
        due("18: at most 99 each", x.writes(0, 1, 1), 99);
        x = full();
        due("18: can't be", x.writes(0, 1, 0), NONE);
        due("18: can't be, cost", x.writes(0, 1, 1), NONE);
        x = made("blocks 8 room 3; volume v; put v 1 0; costs 0-5;");
        due("18: at least 0", x.writes(0, 1, 1), 0);
    }

    /** Eight blocks, all in use and kept by the checkpoint. */
    private static CloneVolumes full() {
        StringBuilder text = new StringBuilder("blocks 8 room 3;");
        for (char c = 'a'; c <= 'h'; c++) {
            text.append("volume ").append(c).append(";put ").append(c).append(" 1 1;");
        }
        CloneVolumes x = made(text.toString());
        due("no block is left", x.has(4), 0);
        return x;
    }

    private static void p19spread() {
        CloneVolumes x = made(TWO + "volume e;");
        due("19: two", x.spread(1, 2), 70);
        due("19: three", x.spread(1, 3), 30);
        due("19: none", x.spread(1, 0), 0);
        due("19: can't be", x.spread(1, NONE), 0);
        due("19: below NONE", x.spread(1, -2), NONE);
        due("19: far", x.spread(1, Integer.MAX_VALUE), 0);
        due("19: empty", x.spread(2, 1), 100);
        due("19: no volume", x.spread(3, 1), NONE);
        due("19: no volume", x.spread(-1, 1), NONE);
        due("19: none can be", full().spread(0, NONE), 100);
    }

    private static void p20lost() {
        CloneVolumes x = made(TWO);
        int[] want = {2, 4, 4, 5, 3, 0};
        for (int b = 0; b < want.length; b++) {
            due("20: lost(" + b + ")", x.lost(b), want[b]);
        }
        due("20: none such", x.lost(12), NONE);
        due("20: none such", x.lost(-1), NONE);
        x.put(0, 50, 1);
        due("20: held", x.lost(1), 0);
        x.copy(1);
        due("20: of each one", x.lost(2), 4);
        due("20: no store", new CloneVolumes().lost(0), NONE);
    }

    private static void p21worst() {
        CloneVolumes x = made(TWO);
        due("21: which", x.worst(0), 3);
        due("21: how many", x.worst(1), 5);
        due("21: other", x.worst(2), NONE);
        due("21: other", x.worst(-1), NONE);
        x.remove(1, 25);
        x.remove(1, 20);
        // Leaf 2 is lost with 2 keys in both, the root of a with 4 keys: the first of like ones.
        due("21: of like ones the first", x.worst(0), 1);
        due("21: how many", x.worst(1), 4);
        due("21: no keys", made(ONE).worst(0), NONE);
        due("21: no keys", made(ONE).worst(1), NONE);
        due("21: no store", new CloneVolumes().worst(1), NONE);
    }

    private static void p22victim() {
        CloneVolumes x = made(TWO);
        due("22: of like ones the first", x.victim(0), 0);
        due("22: how many", x.victim(1), 2);
        due("22: other", x.victim(2), NONE);
        due("22: other", x.victim(-1), NONE);
        x.put(1, 26, 1);
        due("22: most", x.victim(0), 1);
        due("22: most, how many", x.victim(1), 3);
        due("22: an empty one", made(ONE).victim(0), 0);
        due("22: an empty one", made(ONE).victim(1), 0);
        due("22: no volumes", made("blocks 8 room 3;").victim(0), NONE);
        due("22: no volumes", made("blocks 8 room 3;").victim(1), NONE);
    }

    private static void p23room() {
        CloneVolumes x = made(TWO);
        x.put(0, 50, 5);
        due("23: now", x.room(0), 5);
        due("23: behind a checkpoint", x.room(1), 6);
        due("23: behind a crash", x.room(2), 7);
        due("23: other", x.room(3), NONE);
        due("23: other", x.room(-1), NONE);
        x.undo();
        x.put(0, 50, 5);
        x.checkpoint();
        due("23: as told", x.room(0), 6);
        due("23: no store", new CloneVolumes().room(1), NONE);
    }

    private static void p24back() {
        CloneVolumes x = made(TWO);
        due("24: alike", x.back(0), 0);
        x.put(0, 50, 5);
        x.put(0, 10, 5);
        x.remove(0, 20);
        due("24: unlike", x.back(0), 3);
        due("24: the other", x.back(1), 0);
        due("24: now alone", x.back(x.copy(0)), NONE);
        x.drop(1);
        due("24: then alone", x.back(1), NONE);
        due("24: none such", x.back(-1), NONE);
        due("24: none such", x.back(8), NONE);
        x.copy(0);
        due("24: of its number", x.back(1), 4);
        x.checkpoint();
        due("24: alike again", x.back(1), 0);
    }

    private static void p25see() {
        CloneVolumes x = made(TWO);
        due("25: one", Check.see(x, 25, 9), 1);
        int[] rows = new int[26];
        due("25: thirteen", Check.see(x, rows), NONE);
        due("25: none", Check.see(x), NONE);
        due("25: twelve", Check.see(x, Arrays.copyOf(rows, 24)), 12);
        due("25: the edges", Check.see(x, 999, 1000), 1);
        due("25: the tape goes", x.end(1), false);
        due("25: no key", Check.see(x, 1000, 1), NONE);
        due("25: no value", Check.see(x, 1, 1001), NONE);
        due("25: the second row", Check.see(x, 1, 1, 1, 1001), NONE);
        due("25: the tape goes all the same", x.end(1), false);
        Check.lay(x, new byte[] {0, 1, 0});
        due("25: three bytes", x.see(), NONE);
        Check.lay(x, new byte[] {0, 1, 0, 1, 0});
        due("25: five bytes", x.see(), NONE);
        due("25: all stays", x.has(7), 1);
        due("25: and fits", x.fits(NONE), 2);
        due("25: refused", x.status(1), 7);
        CloneVolumes y = new CloneVolumes();
        due("25: without a store", Check.see(y, 1, 1), 1);
        due("25: without a store", y.has(7), 1);
    }

    private static void p26fits() {
        CloneVolumes x = made(TWO + "volume e;");
        due("26: nothing seen", x.fits(NONE), 3);
        due("26: the last", x.fits(2), 2);
        due("26: behind", x.fits(3), NONE);
        due("26: below NONE", x.fits(-2), NONE);
        Check.see(x, 25, 1000);
        due("26: no such key", x.fits(NONE), 2);
        due("26: the first", x.fits(0), 0);
        due("26: the second", x.fits(1), 2);
        Check.see(x, 25, 9, 10, 1);
        due("26: both rows", x.fits(NONE), 1);
        due("26: both rows", x.fits(0), 1);
        Check.see(x, 25, 9, 25, 1000);
        due("26: none", x.fits(NONE), 0);
        due("26: none", x.fits(0), NONE);
        x.put(2, 25, 9);
        Check.see(x, 25, 9);
        x.drop(1);
        due("26: as it is now", x.fits(0), 2);
    }

    private static void p27tells() {
        CloneVolumes x = made(TWO + "volume e;");
        // By 10 two read 1 and one nothing; by 25 one reads 9; none parts all three.
        due("27: of like ones the first", x.tells(0), 10);
        due("27: how many", x.tells(1), 2);
        x.put(2, 25, 8);
        due("27: parts all", x.tells(0), 25);
        due("27: parts all", x.tells(1), 1);
        due("27: other", x.tells(2), NONE);
        due("27: other", x.tells(-1), NONE);
        Check.see(x, 25, 9);
        due("27: one fit", x.tells(0), 0);
        due("27: one fit", x.tells(1), 1);
        Check.see(x, 25, 7);
        due("27: no fits", x.tells(0), NONE);
        due("27: no fits", x.tells(1), NONE);
        x = made("blocks 8 room 3; volume a; volume b; put a 100 1; put b 99 1;");
        due("27: below 100 alone", x.tells(0), 99);
        x = made("blocks 8 room 3; volume a; volume b; put a 100 1;");
        due("27: not by 100", x.tells(0), 0);
        due("27: not by 100", x.tells(1), 2);
    }

    private static void p28put() {
        CloneVolumes x = made(ONE);
        due("28: the first", x.put(0, 10, 1), 1);
        due("28: the same again", x.put(0, 10, 1), 0);
        due("28: another value", x.put(0, 10, 2), 1);
        x.put(0, 20, 1);
        x.put(0, 30, 1);
        due("28: a split", x.put(0, 40, 1), 3);
        due("28: root", x.volume(0, 0), 1);
        due("28: its first key", x.entry(1, 0, 0), 10);
        due("28: its second key", x.entry(1, 1, 0), 30);
        due("28: the half", x.entry(1, 1, 1), 2);
        x.checkpoint();
        due("28: not in place", x.put(0, 40, 2), 2);
        due("28: held", x.has(3), 2);
        for (int bad : new int[] {-1, 1000, Integer.MAX_VALUE, Integer.MIN_VALUE}) {
            due("28: key", x.put(0, bad, 1), NONE);
            due("28: value", x.put(0, 1, bad), NONE);
        }
        due("28: no volume", x.put(1, 1, 1), NONE);
        due("28: no volume", x.put(8, 1, 1), NONE);
        due("28: no volume", x.put(-1, 1, 1), NONE);
        due("28: refused", x.status(2), 11);
        x = full();
        byte[] before = Check.image(x);
        int kept = x.has(6);
        int refused = x.status(2);
        due("28: none can be taken", x.put(0, 1, 2), NONE);
        due("28: all stays", Arrays.equals(before, Check.image(x)), true);
        due("28: not kept", x.has(6), kept);
        due("28: refused", x.status(2), refused + 1);
    }

    private static void p29remove() {
        CloneVolumes x = made("blocks 48 room 3;splits all;volume a;put a 1 0;put a 2 0;put a 3 0;put a 4 0;clone b of a;");
        due("29: a leaf goes", x.remove(0, 2), 2);
        due("29: a leaf is copied", x.remove(0, 3), 2);
        due("29: the root is lowered", x.remove(0, 4), 0);
        due("29: to a leaf", x.volume(0, 2), 1);
        due("29: which b has too", x.volume(0, 0), x.path(1, 1, 2));
        due("29: the last", x.remove(0, 1), 0);
        due("29: empty", x.volume(0, 0), NONE);
        due("29: still a volume", x.has(1), 2);
        due("29: not there", x.remove(0, 1), NONE);
        due("29: not there", x.remove(1, 5), NONE);
        due("29: no key", x.remove(1, -1), NONE);
        due("29: no key", x.remove(1, 1000), NONE);
        due("29: no volume", x.remove(2, 1), NONE);
        due("29: no volume", x.remove(-1, 1), NONE);
        due("29: refused", x.status(2), 6);
        due("29: b is as it was", x.total(1, 0, 999) + x.volume(1, 1), 4);
        x = full();
        byte[] before = Check.image(x);
        due("29: none can be taken", x.remove(0, x.key(0, 0)), NONE);
        due("29: all stays", Arrays.equals(before, Check.image(x)), true);
    }

    private static void p30copy() {
        CloneVolumes x = made(TWO);
        for (int v = 2; v < 8; v++) {
            due("30: copy", x.copy(0), v);
        }
        due("30: its root", x.volume(7, 0), 1);
        due("30: counts", x.block(1, 0), 7);
        due("30: eight", x.copy(0), NONE);
        x.drop(3);
        x.drop(5);
        due("30: the least that is free", x.copy(1), 3);
        due("30: none such", x.copy(6 + 2), NONE);
        due("30: none such", x.copy(5), NONE);
        due("30: none such", x.copy(-1), NONE);
        due("30: refused", x.status(2), 4);
        x = made(ONE);
        due("30: of an empty one", x.copy(0), 1);
        due("30: empty", x.volume(1, 0), NONE);
        due("30: but there", x.volume(1, 1), 0);
        due("30: writes nothing", x.kept(0, 2), 0);
    }

    private static void p31drop() {
        CloneVolumes x = made(TWO);
        due("31: a's own", x.drop(0), 2);
        due("31: held", x.has(3), 2);
        due("31: no deeper than shared", x.block(2, 0), 1);
        due("31: all of b", x.drop(1), 3);
        due("31: nothing left", x.has(2), 0);
        due("31: none such", x.drop(0), NONE);
        due("31: none such", x.drop(-1), NONE);
        due("31: none such", x.drop(8), NONE);
        due("31: refused", x.status(2), 3);
        x = made(ONE);
        due("31: an empty one", x.drop(0), 0);
        due("31: no volumes", x.has(1), 0);
    }

    private static void p32checkpoint() {
        CloneVolumes x = new CloneVolumes();
        due("32: no store", x.checkpoint(), NONE);
        due("32: refused", x.status(3), 1);
        Check.store(x, TWO);
        due("32: nothing held", x.checkpoint(), 0);
        x.put(0, 50, 5);
        x.drop(1);
        due("32: held", x.checkpoint(), 4);
        due("32: no more", x.has(3), 0);
        due("32: nothing fresh", Check.ask(x, "total fresh"), 0);
        x.crash();
        due("32: what a crash brings", x.read(0, 50), 5);
        due("32: and what not", x.has(1), 1);
    }

    private static void p33crash() {
        CloneVolumes x = new CloneVolumes();
        due("33: no store", x.crash(), NONE);
        due("33: refused", x.status(3), 1);
        Check.store(x, TWO);
        byte[] before = Check.image(x);
        x.put(0, 50, 5);
        x.drop(1);
        x.copy(0);
        x.copy(0);
        due("33: fresh ones", x.crash(), 2);
        due("33: keys", x.read(0, 50), NONE);
        due("33: volumes", x.has(1), 2);
        due("33: the cost stays", x.has(5), 2);
        byte[] after = Check.image(x);
        after[2] = 0;
        due("33: else all as it was", Arrays.equals(Check.sealed(after), before), true);
        due("33: is kept", x.has(6), 5);
        due("33: again", x.crash(), 0);
    }

    private static void p34chance() {
        CloneVolumes x = new CloneVolumes();
        due("34: no store", x.chance(1), NONE);
        Check.store(x, "blocks 48 room 4; volume a; volume b; churn 0;");
        due("34: none", x.chance(0), NONE);
        due("34: too many", x.chance(41), NONE);
        due("34: below", x.chance(-1), NONE);
        due("34: refused", x.status(3), 4);
        // From seed 1: draws of 100, 2, 3, 40, 100 by the document's rule.
        long[] seed = {1};
        draw(seed, 100);
        int volume = draw(seed, 2);
        int what = draw(seed, 3);
        int key = draw(seed, 40);
        int value = what < 2 ? draw(seed, 100) : -1;
        due("34: one", x.chance(1), what < 2 ? 1 : 0);
        due("34: what it did", x.read(volume, key), value);
        due("34: one act", x.has(6), 1);
        int done = x.chance(40);
        due("34: forty, one act", x.has(6), 2);
        due("34: some", done > 0 && done <= 40, true);
        x.undo();
        due("34: undone whole", x.read(volume, key), value);
        due("34: by churn no checkpoint", x.block(0, 1), 0);
        x = made("blocks 8 room 3; volume v; churn 100;");
        x.chance(1);
        due("34: checkpoint first, then the rest", x.back(0), x.volume(0, 1));
        x = made("blocks 8 room 3; churn 100;");
        due("34: no volumes", x.chance(40), 0);
        due("34: is kept", x.kept(0, 0), 6);
    }

    private static int draw(long[] seed, int m) {
        seed[0] = (1103515245L * seed[0] + 12345L) % (1L << 31);
        return (int) (seed[0] / 64 % m);
    }

    private static void p35undo() {
        CloneVolumes x = new CloneVolumes();
        due("35: nothing", x.undo(), false);
        due("35: refused", x.status(4), 1);
        Check.store(x, TWO);
        byte[][] before = new byte[6][];
        before[0] = Check.image(x);
        x.put(0, 50, 5);
        before[1] = Check.image(x);
        x.drop(1);
        before[2] = Check.image(x);
        x.checkpoint();
        before[3] = Check.image(x);
        x.copy(0);
        before[4] = Check.image(x);
        x.chance(9);
        before[5] = Check.image(x);
        x.crash();
        for (int i = 5; i >= 0; i--) {
            due("35: undo", x.undo(), true);
            due("35: as it was", Arrays.equals(Check.image(x), before[i]), true);
            due("35: kept no more", x.has(6), i);
            due("35: can be undone", x.has(8), i);
        }
        due("35: nothing left", x.undo(), false);
        for (int i = 0; i < 25; i++) {
            x.put(0, 50, i);
        }
        due("35: the last 20", x.has(8), 20);
        for (int i = 0; i < 20; i++) {
            due("35: undo", x.undo(), true);
        }
        due("35: no more", x.undo(), false);
        due("35: as far back", x.read(0, 50), 4);
        x = made("blocks 48 room 4; volume v;");
        int[] of = {100, 1, 3, 40, 100, 100, 1, 3, 40};
        int[] drawn = new int[9];
        int seed = -1;
        do {
            seed++;
            long[] dice = {seed};
            for (int i = 0; i < 9; i++) {
                drawn[i] = draw(dice, of[i]);
            }
        } while (drawn[2] == 2 || drawn[7] == 2 || drawn[3] == drawn[8]);
        x.seed(seed);
        x.chance(1);
        due("35: first", x.key(0, 0), drawn[3]);
        x.undo();
        due("35: gone", x.key(0, 0), NONE);
        x.chance(1);
        due("35: the seed stays", x.key(0, 0), drawn[8]);
    }

    private static void p36seed() {
        CloneVolumes x = new CloneVolumes();
        due("36: 0", x.seed(0), true);
        due("36: most", x.seed(Integer.MAX_VALUE), true);
        due("36: below 0", x.seed(-1), false);
        due("36: least", x.seed(Integer.MIN_VALUE), false);
        due("36: refused", x.status(5), 2);
        Check.store(x, "blocks 48 room 6; volume v;");
        x.seed(1);
        x.chance(20);
        CloneVolumes y = made("blocks 48 room 6; volume v;");
        y.chance(20);
        due("36: 1 at first", Arrays.equals(Check.image(x), Check.image(y)), true);
        x.seed(-5);
        x.chance(20);
        y.chance(20);
        due("36: a refused one changes nothing", Arrays.equals(Check.image(x), Check.image(y)), true);
        CloneVolumes z = made("blocks 48 room 6; volume v;");
        z.seed(2);
        z.chance(20);
        z.chance(20);
        due("36: another one", Arrays.equals(Check.image(z), Check.image(y)), false);
    }

    private static void p37ask() {
        CloneVolumes x = new CloneVolumes();
        due("37: no store", Check.ask(x, "total number"), NOTHING);
        due("37: the tape goes", x.end(1), false);
        Check.store(x, TWO);
        x.put(0, 50, 5);
        String[] texts = {"total number", "total count", "total level", "total entries", "total fresh", "total saved",
            "first level > 0", "last level>0", "often level=1", "first all", "last all", "often all", "first number>99",
            "last number>99", "often number > 99", "most number", "least number", "most 0-number", "least 0-number",
            "total 0-1", "first refs 2 = 1 and number = 2", "total key 6", "total key 1", "total key 7", "total key 99",
            "total refs 99", "total refs(0-1)", "most refs number", "most key number", "first key number = 40",
            "total refs refs 0", "total key key 7", "most min(count, saved)*10", "total 9999*9999", "total 0-9999*9999",
            "total 7/0", "least (0-7)/2", "least 7/2", "often saved > 0 and count = 0 or fresh = 1"};
        // Free: 7 .. 11. Held: 1 (level 1, two entries). Fresh: 5 (level 1), 6 (30 40 50).
        long[] want = {66, 6, 3, 16, 2, 6,
            1, 5, 3, 0, 11, 12, NONE,
            NONE, 0, 11, 0, 0, -11,
            -12, 2, 12 * 30, 0, 0, 0,
            0, 0, 1, 30, NONE,
            0, 120, 10, 12000000, -12000000,
            0, -4, 3, 3};
        for (int i = 0; i < texts.length; i++) {
            due("37: " + texts[i], Check.ask(x, texts[i]), want[i]);
            due("37: no fault", x.fault(0), 0);
        }
        due("37: with a fault", Check.ask(x, "total from"), NOTHING);
        due("37: the tape goes", x.end(1), false);
        due("37: nothing is refused", x.status(1), 0);
    }

    private static void p38image() {
        CloneVolumes x = new CloneVolumes();
        due("38: ahead of a store", x.image(), 20);
        due("38: none such", x.octet(3), 255);
        due("38: sum", x.octet(19), 25);
        Check.store(x, "blocks 8 room 3; volume a; put a 300 999; volume e;");
        due("38: a store", x.image(), 3 + 16 + 16 + 2 + 4 + 1);
        x.put(0, 300, 999);
        x.put(0, 301, 1);
        int[] want = {0, 0, 2, 1, 0, 254, 254, 255, 255, 255, 255, 255, 255, 255, 255, 255, 255, 255, 255,
            0, 1, 0, 1, 1, 44, 3, 231,
            1, 0, 0, 2, 1, 44, 3, 231, 1, 45, 0, 1,
            0, 0, 0, 0, 0, 0, 0, 0, 0, 0, 0, 0};
        byte[] image = Check.image(x);
        due("38: how many", image.length, want.length + 1);
        for (int i = 0; i < want.length && i < image.length; i++) {
            due("38: byte " + i, image[i] & 255, want[i]);
        }
        due("38: sealed", Arrays.equals(Check.sealed(image), image), true);
        x = made("blocks 8 room 3; volume v; costs 99;");
        for (int i = 0; i < 400; i++) {
            x.put(0, 1, i);
        }
        x.image();
        due("38: three bytes", x.octet(0) * 65536 + x.octet(1) * 256 + x.octet(2), 39600);
    }

    private static void p39octet() {
        CloneVolumes x = made(TWO);
        due("39: no image yet", x.octet(0), NONE);
        int size = x.image();
        int root = x.octet(3);
        due("39: a root", root, 1);
        x.put(0, 50, 5);
        due("39: of the latest", x.octet(3), root);
        due("39: the last", x.octet(size - 1) != NONE, true);
        due("39: behind", x.octet(size), NONE);
        due("39: ahead", x.octet(-1), NONE);
        x.image();
        due("39: a new one", x.octet(3), 5);
        due("39: longer than before", x.octet(size) != NONE, true);
    }

    private static void p40on() {
        CloneVolumes x = made(TWO);
        x.put(0, 50, 5);
        byte[] image = Check.image(x);
        x.crash();
        Check.see(x, 10, 1);
        due("40: an image", Check.on(x, image), true);
        due("40: the tape goes", x.end(1), false);
        due("40: all is so", x.read(0, 50), 5);
        due("40: the checkpoint too", x.back(0), 1);
        due("40: the cost", x.has(5), 2);
        due("40: nothing kept", x.has(6), 0);
        due("40: nothing undone", x.undo(), false);
        due("40: seen stays", x.has(7), 1);
        due("40: again the same", Arrays.equals(Check.image(x), image), true);
        for (int i = 0; i < image.length; i++) {
            byte[] bad = image.clone();
            bad[i]++;
            due("40: sum", Check.on(x, bad), false);
        }
        due("40: cut", Check.on(x, Check.sealed(Arrays.copyOf(image, image.length - 1))), false);
        due("40: longer", Check.on(x, Check.sealed(Arrays.copyOf(image, image.length + 1))), false);
        due("40: nothing", Check.on(x, new byte[0]), false);
        due("40: all stays", Arrays.equals(Check.image(x), image), true);
        due("40: refused", x.status(5), image.length + 3);
        changed();
        due("40: no store", Check.on(new CloneVolumes(), Check.image(new CloneVolumes())), false);
        due("40: other blocks", Check.on(made("blocks 13 room 3;"), image), false);
        due("40: as many blocks, more room", Check.on(made("blocks 12 room 4; volume q;"), image), true);
        due("40: no entries", Check.on(made(ONE), leaf(0)), false);
        due("40: as many as room", Check.on(made(ONE), leaf(3)), true);
        due("40: more than room", Check.on(made(ONE), leaf(4)), false);
        due("40: most", Check.on(made("blocks 8 room 6;"), leaf(6)), true);
        due("40: more than most", Check.on(made("blocks 8 room 6;"), leaf(7)), false);
    }

    /** An image of eight blocks: volume 0 has a leaf of n entries, block 7, which the checkpoint does not keep. */
    private static byte[] leaf(int n) {
        byte[] image = new byte[19 + 14 + 4 + 4 * n + 1];
        Arrays.fill(image, 3, 19, (byte) 255);
        image[3] = 7;
        image[33] = 1;
        image[36] = (byte) n;
        for (int k = 0; k < n; k++) {
            image[37 + 4 * k + 1] = (byte) (k + 1);
        }
        return Check.sealed(image);
    }

    /** Places in the image of TWO: 19 block 0 (10 20), 31 block 1 over 0 and 2, 43 block 2 (30 40), 55 block 3 over 4, 2. */
    private static void changed() {
        CloneVolumes x = made(TWO);
        byte[] image = Check.image(x);
        due("40: block 1 stands at 31", image[31 + 2], 1);
        due("40: block 3 stands at 55", image[55 + 2], 1);
        int[][] bad = {{0, 16}, {3, 12}, {3, 0}, {3, 255}, {3, 254}, {4, 2}, {5, 253}, {7, 1}, {7, 12}, {8, 12}, {19, 2}, {19, 0}, {20, 2},
            {21, 1}, {21, 48}, {21, 255}, {22, 0}, {22, 4}, {23, 4}, {24, 20}, {25, 4}, {31 + 2, 2}, {31 + 2, 0},
            {31 + 3, 1}, {31 + 6, 1}, {31 + 7, 4}, {31 + 7, 12}, {31 + 9, 20}, {31 + 9, 31}, {31 + 11, 0}, {31 + 11, 5}};
        for (int[] change : bad) {
            byte[] other = image.clone();
            other[change[0]] = (byte) change[1];
            due("40: byte " + change[0] + " is " + change[1], Check.on(x, Check.sealed(other)), false);
            due("40: all stays", Arrays.equals(Check.image(x), image), true);
        }
        // 999999 is 15, 66, 63; the key of the first entry above level 0 bounds nothing; 29 is still above 20.
        int[][] good = {{0, 15}, {2, 9}, {24, 0}, {26, 99}, {31 + 5, 99}, {31 + 4, 3}, {31 + 9, 29}, {31 + 9, 21}};
        for (int[] change : good) {
            byte[] other = image.clone();
            other[change[0]] = (byte) change[1];
            due("40: byte " + change[0] + " is " + change[1], Check.on(x, Check.sealed(other)), true);
            due("40: it is so", Arrays.equals(Check.image(x), Check.sealed(other)), true);
        }
        byte[] cost = image.clone();
        cost[0] = 15;
        cost[1] = 66;
        cost[2] = 63;
        due("40: cost 999999", Check.on(x, Check.sealed(cost)), true);
        due("40: cost 999999", x.has(5), 999999);
        x.put(0, 11, 1);
        due("40: no more than that", x.has(5), 999999);
        cost[2] = 64;
        due("40: cost 1000000", Check.on(x, Check.sealed(cost)), false);
    }

    private static void p41status() {
        CloneVolumes x = new CloneVolumes();
        for (int what : ODD) {
            due("41: status(" + what + ")", x.status(what), what >= 0 && what < 6 ? 0 : NONE);
        }
        x.end(-1);
        x.store();
        x.see();
        x.put(0, 0, 0);
        x.remove(0, 0);
        x.copy(0);
        x.drop(0);
        x.checkpoint();
        x.crash();
        x.chance(1);
        x.undo();
        x.seed(-1);
        x.on();
        int[] want = {1, 2, 4, 3, 1, 2};
        for (int what = 0; what < 6; what++) {
            due("41: status(" + what + ")", x.status(what), want[what]);
        }
        Check.store(x, ONE);
        due("41: a store keeps them", x.status(2), 4);
        x.read(9, 9);
        x.spread(9, 9);
        Check.ask(x, "?");
        due("41: asking refuses nothing", x.status(1), 2);
    }

    /** picks, splits, costs: what their words tell, and how sums go. */
    private static void formulas() {
        String put4 = "put v 1 1; put v 2 2; put v 3 3; put v 4 4;";
        CloneVolumes x = made(ONE + "picks (block-3)*(block-3);" + put4);
        due("I: the least, of like ones the first", x.path(0, 1, 1), 3);
        due("I: then the root", x.volume(0, 0), 2);
        due("I: then the half", x.path(0, 4, 1), 4);
        x = made(ONE + "picks (block-5*level)*(block-5*level);" + put4);
        due("I: level of the one to be", x.volume(0, 0), 5);
        x = made(ONE + "picks (block-from-2)*(block-from-2); put v 1 1;");
        due("I: 48 without one", x.volume(0, 0), 7);
        x.checkpoint();
        x.put(0, 1, 2);
        due("I: of which it is a copy", x.volume(0, 0), 6);
        x = made("blocks 20 room 3; volume v; picks (block-from/4)*(block-from/4);" + put4);
        due("I: from 48", x.path(0, 1, 1), 12);
        due("I: the root above the split one", x.volume(0, 0), 3);
        due("I: of the split one", x.path(0, 3, 1), 2);
        x = made(ONE + "splits entries > 1;" + put4);
        due("I: splits by entries", x.volume(0, 2), 3);
        x = made("blocks 20 room 6; volume v; splits level = 0 and entries = 2;" + put4);
        due("I: splits by level", x.volume(0, 2), 2);
        x = made("blocks 8 room 3; volume v; splits not all;" + put4);
        due("I: none", x.volume(0, 2), 2);
        x = made(ONE + "costs 10*level+block+entries;" + put4);
        x.put(0, 5, 5);
        // The root, copied into 3, has two entries at level 1; the leaf, copied into 4, has three at level 0.
        due("I: costs", x.has(5), 10 + 3 + 2 + 4 + 3);
        x = made(ONE + "costs 0-level;" + put4);
        x.put(0, 5, 5);
        due("I: not below 0", x.has(5), 0);
    }
}
