import java.util.Random;

/**
 * Any call with any numbers in any state: none may throw, two objects with the same calls answer the same,
 * and what a whole run makes stays small.
 */
public final class AnyCallTest {
    private static final int[] ODD = {Integer.MIN_VALUE, -1000, -2, -1, 0, 1, 2, 3, 7, 8, 9, 20, 47, 48, 99, 999, 1000, 1600,
        Integer.MAX_VALUE};
    private static final String[] TEXTS = {
        "blocks 8 room 3;volume a;put a 1 1;clone b of a;put b 2 2;",
        "blocks 48 room 3;volume a;splits all;picks from-block*level;costs 99/block;churn 20;",
        "blocks 48 room 6;picks 0-block;volume a;volume b;volume c;churn 100;put a 5 5;",
        "blocks 20 room 4;splits entries>1 and level=0;volume a;put a 1 1;put a 2 2;put a 3 3;clone b of a;",
        "total refs key(number*3)-saved", "first not fresh=1 or refs 99=0", "most 9999*9999*9999/0-1", "volume"};
    /** Bytes that an object and all its calls may make: a hundred times that is still far below the room. */
    private static final long MOST_BYTES = 200000;

    private AnyCallTest() {
    }

    public static void main(String[] args) {
        for (int run = 0; run < 600 && Check.wrongs() == 0; run++) {
            CloneVolumes x = new CloneVolumes();
            CloneVolumes y = new CloneVolumes();
            Random r = new Random(run);
            Random s = new Random(run);
            for (int i = 0; i < 512; i++) {
                Check.due(run + ": call " + i, one(x, r), one(y, s));
            }
        }
        deepest();
        largest();
        room();
        Check.close();
    }

    private static long one(CloneVolumes x, Random r) {
        int what = r.nextInt(48);
        if (what >= 44) {
            Check.lay(x, TEXTS[r.nextInt(TEXTS.length)]);
            return what == 44 ? x.store() : what == 45 ? x.ask() : what == 46 ? x.see() : x.on() ? 1 : 0;
        }
        return call(x, what, some(r), some(r), some(r));
    }

    private static int some(Random r) {
        return r.nextInt(3) > 0 ? r.nextInt(r.nextBoolean() ? 4 : 40) : ODD[r.nextInt(ODD.length)];
    }

    private static long call(CloneVolumes x, int what, int a, int b, int c) {
        switch (what) {
            case 0: return x.feed(a, b, c, a, b);
            case 1: return x.end(a) ? 1 : 0;
            case 2: return x.fault(a);
            case 3: return x.has(a);
            case 4: return x.letter(a, b);
            case 5: return x.volume(a, b);
            case 6: return x.block(a, b);
            case 7: return x.entry(a, b, c);
            case 8: return x.kept(a, b);
            case 9: return x.read(a, b);
            case 10: return x.key(a, b);
            case 11: return x.total(a, b, c);
            case 12: return x.path(a, b, c);
            case 13: return x.shared(a, b);
            case 14: return x.differs(a, b, c);
            case 15: return x.writes(a, b, c);
            case 16: return x.spread(a, b);
            case 17: return x.lost(a);
            case 18: return x.worst(a);
            case 19: return x.victim(a);
            case 20: return x.room(a);
            case 21: return x.back(a);
            case 22: return x.see();
            case 23: return x.fits(a);
            case 24: return x.tells(a);
            case 25: return x.remove(a, b);
            case 26: return x.copy(a);
            case 27: return x.drop(a);
            case 28: return x.checkpoint();
            case 29: return x.crash();
            case 30: return x.chance(a);
            case 31: return x.undo() ? 1 : 0;
            case 32: return x.seed(a) ? 1 : 0;
            case 33: return x.ask();
            case 34: return x.image();
            case 35: return x.octet(a);
            case 36: return x.on() ? 1 : 0;
            case 37: return x.status(a);
            default: return x.put(a, b, c);
        }
    }

    /** The tallest trees that there can be: a LEVEL more with each PUT, as far as the BLOCKS reach. */
    private static void deepest() {
        CloneVolumes x = new CloneVolumes();
        Check.store(x, "blocks 48 room 3; splits all; volume v;");
        for (int i = 0; i < 100; i++) {
            x.put(0, i, i);
            x.put(0, 999 - i, i);
        }
        int levels = x.volume(0, 2);
        Check.due("deep trees", levels > 6, true);
        Check.due("the way down", x.path(0, 5, levels - 1) >= 0, true);
        byte[] image = Check.image(x);
        Check.due("a deep image", Check.on(x, image), true);
        x.checkpoint();
        for (int key = x.key(0, 0); key >= 0 && x.remove(0, key) >= 0; key = x.key(0, 0)) {
            x.checkpoint();
        }
        Check.due("blocks are all told", x.has(2) + x.has(3) + x.has(4), 48);
        chain();
    }

    /** 48 BLOCKS, one above the other. */
    private static void chain() {
        CloneVolumes x = new CloneVolumes();
        Check.store(x, "blocks 48 room 3;");
        byte[] image = new byte[3 + 16 + 48 * 8 + 1];
        java.util.Arrays.fill(image, 3, 19, (byte) 255);
        image[3] = 47;
        for (int b = 0; b < 48; b++) {
            int at = 19 + 8 * b;
            image[at] = 1;
            image[at + 2] = (byte) b;
            image[at + 3] = 1;
            image[at + 5] = 7;
            image[at + 7] = (byte) Math.max(0, b - 1);
        }
        Check.due("a chain", Check.on(x, Check.sealed(image)), true);
        Check.due("its levels", x.volume(0, 2), 48);
        Check.due("its key", x.read(0, 7), 0);
        Check.due("its leaf", x.path(0, 7, 47), 0);
        Check.due("no way on", x.path(0, 7, 48), -1);
        Check.due("lost", x.lost(20), 1);
        Check.due("a key more", x.put(0, 8, 1), 1);
        Check.due("one less", x.remove(0, 8), 1);
        Check.due("lowered to its leaf", x.volume(0, 2), 1);
        Check.due("as the leaf alone", x.has(2), 1);
        x.undo();
        Check.due("freed", x.drop(0), 48);
    }

    /** 48 BLOCKS of six ENTRIES: 36 leaves under 6 under a root, and five leaves that are roots. */
    private static void largest() {
        byte[] image = new byte[3 + 16 + 48 * 28 + 1];
        java.util.Arrays.fill(image, 3, 19, (byte) 255);
        for (int v = 0; v < 6; v++) {
            image[3 + 2 * v] = (byte) (42 + v);
        }
        for (int b = 0; b < 48; b++) {
            int at = 19 + 28 * b;
            image[at] = 1;
            image[at + 2] = (byte) (b < 36 || b > 42 ? 0 : b < 42 ? 1 : 2);
            image[at + 3] = 6;
            for (int k = 0; k < 6; k++) {
                boolean low = image[at + 2] == 0;
                int key = b < 36 ? 6 * b + k : b < 42 ? 36 * (b - 36) + 6 * k : b == 42 ? 36 * k : k;
                image[at + 4 + 4 * k + 1] = (byte) key;
                image[at + 4 + 4 * k + 3] = (byte) (low ? k : b < 42 ? 6 * (b - 36) + k : 36 + k);
            }
        }
        image = Check.sealed(image);
        CloneVolumes x = new CloneVolumes();
        Check.store(x, "blocks 48 room 6;");
        Check.due("the largest image", Check.on(x, image), true);
        Check.due("as many bytes", x.image(), 1364);
        Check.due("the same", java.util.Arrays.equals(Check.image(x), image), true);
        Check.due("its keys", x.volume(0, 1), 216);
        Check.due("the last", x.key(0, 215), 215);
        Check.due("none can be taken", x.put(0, 7, 7), -1);
        Check.due("a leaf that is its own", x.remove(1, 5), 1);
    }

    private static void room() {
        com.sun.management.ThreadMXBean threads =
            (com.sun.management.ThreadMXBean) java.lang.management.ManagementFactory.getThreadMXBean();
        long id = Thread.currentThread().getId();
        for (int turn = 0; turn < 3; turn++) {
            long before = threads.getThreadAllocatedBytes(id);
            CloneVolumes x = new CloneVolumes();
            long sum = 0;
            x.feed(0x626c6f63, 0x6b732034, 0x3820726f, 0x6f6d2034, 0x3b766f6c);
            x.feed(0x756d6520, 0x613b2020, 0x20202020, 0x20202020, 0x20202020);
            sum += x.store();
            for (int i = 0; i < 512; i++) {
                sum += call(x, i % 2 == 0 ? 30 : 9 + i / 2 % 28, i % 41, i % 8, i % 3);
                sum += x.put(0, i % 50, i);
            }
            long made = threads.getThreadAllocatedBytes(id) - before;
            if (turn == 2) {
                Check.due("made " + made + " bytes, small (" + sum + ")", made < MOST_BYTES, true);
            }
        }
    }
}
