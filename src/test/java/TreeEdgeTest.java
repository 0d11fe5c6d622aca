import java.util.ArrayList;
import java.util.Arrays;
import java.util.List;
import java.util.TreeMap;

/**
 * Part II of the document, sentence by sentence: BLOCKS, TO TAKE, TO OWN, TO PUT, TO REMOVE, what is WRITTEN, KEPT, undone,
 * and BY THE SEED. The label of a check begins with the words of the document that it holds the class to.
 */
public final class TreeEdgeTest {
    private static final int NONE = CloneVolumes.NONE;
    private static final String LEAF = "blocks 20 room 3;volume v;put v 10 1;put v 20 2;put v 30 3;";
    /** The ROOT 1 over 0 (10, 20) and 2 (30, 40). */
    private static final String TREE = LEAF + "put v 40 4;";

    private TreeEdgeTest() {
    }

    public static void main(String[] args) {
        keysRising();
        entryForAKey();
        counts();
        heldFreeFresh();
        likeOnes();
        noneToTake();
        toOwn();
        halves();
        twoOrMore();
        notAgain();
        rootSplits();
        halfForAKey();
        innerHalves();
        entriesGo();
        blocksGo();
        rootsGo();
        copiesAndDrops();
        crashes();
        written();
        costs();
        kept();
        undone();
        bySeed();
        bySeedWithout();
        calls();
        Check.close();
    }

    private static CloneVolumes made(String text) {
        CloneVolumes x = new CloneVolumes();
        Check.due("store() of " + text, Check.store(x, text) > 0, true);
        return x;
    }

    private static void due(String words, long got, long want) {
        Check.due(words, got, want);
    }

    /** The ENTRIES of a BLOCK, as KEY and VALUE or BLOCK in turn. */
    private static void entries(String words, CloneVolumes x, int block, int... want) {
        due(words + ": how many in " + block, x.block(block, 3), want.length / 2);
        for (int i = 0; i < want.length; i++) {
            due(words + ": ENTRY " + i / 2 + " of " + block, x.entry(block, i / 2, i % 2), want[i]);
        }
    }

    /** All KEYS of a VOLUME with their VALUES, in turn. */
    private static void reads(String words, CloneVolumes x, int volume, int... want) {
        due(words + ": how many KEYS in " + volume, x.volume(volume, 1), want.length / 2);
        for (int i = 0; i < want.length; i += 2) {
            due(words + ": KEY " + i / 2 + " of " + volume, x.key(volume, i / 2), want[i]);
            due(words + ": VALUE of " + want[i], x.read(volume, want[i]), want[i + 1]);
        }
    }

    private static void keysRising() {
        CloneVolumes x = made("blocks 8 room 6;volume v;put v 50 5;put v 10 1;put v 30 3;put v 20 2;put v 60 6;put v 40 4;");
        entries("KEYS rising", x, 0, 10, 1, 20, 2, 30, 3, 40, 4, 50, 5, 60, 6);
        x = made(TREE + "put v 15 6;put v 17 7;");
        entries("KEYS rising, above LEVEL 0 too", x, 1, 10, 0, 20, 3, 30, 2);
        entries("KEYS rising", x, 0, 10, 1, 15, 6, 17, 7);
        entries("KEYS rising", x, 3, 20, 2);
        // Each PUT below the others splits the first leaf, whose ENTRY keeps the KEY 50.
        x = made("blocks 8 room 6;splits level=0 and entries=2;volume v;put v 50 5;put v 60 6;put v 40 4;put v 30 3;put v 20 2;");
        entries("the KEY of the first one there bounds nothing", x, 1, 50, 0, 40, 4, 50, 3, 60, 2);
        reads("the KEY of the first one there bounds nothing", x, 0, 20, 2, 30, 3, 40, 4, 50, 5, 60, 6);
        due("the KEY of the first one there bounds nothing", x.path(0, 39, 1), 0);
        due("the KEY of the first one there bounds nothing", x.path(0, 49, 1), 4);
    }

    private static void entryForAKey() {
        CloneVolumes x = made(TREE + "put v 15 6;put v 17 7;");
        int[][] ways = {{0, 0}, {9, 0}, {10, 0}, {19, 0}, {20, 3}, {29, 3}, {30, 2}, {31, 2}, {999, 2}};
        for (int[] way : ways) {
            due("the last whose KEY is no greater, the first without one: " + way[0], x.path(0, way[0], 1), way[1]);
        }
        x.put(0, 5, 9);
        due("the first without one: its KEY stays", x.entry(x.volume(0, 0), 0, 0), 10);
        due("the first without one", x.read(0, 5), 9);
    }

    private static void counts() {
        String words = "The COUNT is how many ENTRIES of BLOCKS in use, ROOTS of VOLUMES are to it";
        CloneVolumes x = made(TREE + "clone w of v;clone u of w;");
        due(words + ": ROOTS", x.block(1, 0), 3);
        due(words + ": ENTRIES", x.block(0, 0), 1);
        x.put(1, 40, 5);
        due(words + ": a ROOT less", x.block(1, 0), 2);
        due(words + ": an ENTRY more", x.block(0, 0), 2);
        due(words + ": copied, so the other one's alone", x.block(2, 0), 1);
        x.drop(0);
        x.drop(2);
        words = "with COUNT 0 it is not in use";
        due(words, x.block(1, 0), 0);
        due(words, x.has(2), 3);
        due(words + ": ENTRIES of one not in use do not count", x.block(0, 0), 1);
        due(words + ": ENTRIES of one not in use do not count", x.block(2, 0), 0);
    }

    private static void heldFreeFresh() {
        CloneVolumes x = made("blocks 20 room 3;volume v;put v 10 1;put v 20 2;");
        x.put(0, 10, 5);
        due("one of these that is not in use now is HELD", x.block(0, 5), 1);
        due("HELD is not FRESH", x.block(0, 4), 0);
        due("FRESH is one in use now that the CHECKPOINT does not keep", x.block(1, 4), 1);
        due("FRESH is not HELD", x.block(1, 5), 0);
        due("FREE: neither in use nor HELD", x.has(4), 18);
        x.copy(0);
        x.put(1, 10, 6);
        due("what the checkpoint keeps is not TAKEN anew before the next one", x.volume(1, 0), 2);
        x.drop(1);
        due("one that was FRESH is FREE at once", x.has(4), 18);
        x.copy(0);
        x.put(1, 10, 7);
        due("one that was FRESH is TAKEN anew at once", x.volume(1, 0), 2);
        due("behind a CHECKPOINT", x.checkpoint(), 1);
        due("behind a CHECKPOINT none is FRESH", x.block(1, 4) + x.block(2, 4), 0);
        due("behind a CHECKPOINT none is HELD", x.has(3), 0);
        x.put(1, 10, 8);
        due("behind the next CHECKPOINT it is TAKEN anew", x.volume(1, 0), 0);
    }

    private static void likeOnes() {
        due("of like ones the first", made("blocks 9 room 3;volume v;picks 5;put v 1 1;").volume(0, 0), 0);
        due("of like ones the first", made("blocks 9 room 3;volume v;picks 0-5;put v 1 1;").volume(0, 0), 0);
        due("least", made("blocks 9 room 3;volume v;picks 0-block;put v 1 1;").volume(0, 0), 8);
        due("least", made("blocks 9 room 3;volume v;picks 9-block;put v 1 1;").volume(0, 0), 8);
        due("least, of like ones the first", made("blocks 9 room 3;volume v;picks 9-block/3;put v 1 1;").volume(0, 0), 6);
        CloneVolumes x = made("blocks 9 room 3;volume v;picks 9-block/3;put v 1 1;volume w;put w 1 1;volume u;put u 1 1;volume t;put t 1 1;");
        due("of all FREE ones", x.volume(1, 0), 7);
        due("of all FREE ones", x.volume(2, 0), 8);
        due("of all FREE ones", x.volume(3, 0), 3);
        due("its COUNT is 1 then", x.block(7, 0), 1);
    }

    /** A store of eight BLOCKS, all kept by the CHECKPOINT but for so many that are FREE. */
    private static CloneVolumes with(int free, String text, int used) {
        StringBuilder all = new StringBuilder("blocks 8 room 3;volume v;" + text);
        char name = 'a';
        for (int left = 8 - free - used; left > 0; name++) {
            String put = ";put " + name;
            all.append("volume ").append(name).append(put).append(" 1 1;");
            if (left >= 3) {
                // Two BLOCKS more with a fourth KEY, as there are no more than eight VOLUMES.
                all.append(put.substring(1)).append(" 2 2").append(put).append(" 3 3").append(put).append(" 4 4;");
            }
            left -= left >= 3 ? 3 : 1;
        }
        CloneVolumes x = made(all.toString());
        due("FREE", x.has(4), free);
        return x;
    }

    /** An ACT that has to TAKE so many: with fewer FREE ones it can't be, and all stays. */
    private static void needs(String words, int many, String text, int used, int key, int value) {
        for (int free = 0; free <= 8 - used; free++) {
            CloneVolumes x = with(free, text, used);
            x.copy(0);
            x.undo();
            byte[] before = Check.image(x);
            int wrote = value >= 0 ? x.put(0, key, value) : x.remove(0, key);
            String label = words + ", of which there are " + free;
            due(label + ": can be", wrote == NONE ? 0 : 1, free >= many ? 1 : 0);
            due(label + ": refused", x.status(2), free >= many ? 0 : 1);
            due(label + ": KEPT", x.has(6), free >= many ? 1 : 0);
            due(label + ": can be undone", x.has(8), free >= many ? 1 : 0);
            due(label + ": all stays", Arrays.equals(before, Check.image(x)) ? 1 : 0, free >= many ? 0 : 1);
            if (value >= 0) {
                x = with(free, text, used);
                due(label + ": writes()", x.writes(0, key, 0) == NONE ? 0 : 1, free >= many ? 1 : 0);
                due(label + ": nothing is done", Arrays.equals(before, Check.image(x)) ? 1 : 0, 1);
            }
        }
    }

    private static void noneToTake() {
        String leaf = "put v 10 1;put v 20 2;put v 30 3;";
        String tree = leaf + "put v 40 4;";
        needs("TO PUT in an empty VOLUME takes one", 1, "", 0, 5, 5);
        needs("TO PUT takes a copy of the ROOT", 1, "put v 10 1;", 1, 5, 5);
        needs("TO PUT takes the ROOT's copy, one above, a half", 3, leaf, 1, 5, 5);
        needs("TO PUT takes the ROOT's copy and the leaf's", 2, tree, 3, 5, 5);
        needs("TO PUT takes the ROOT's copy, the leaf's, a half", 3, tree + "put v 50 5;", 3, 45, 5);
        needs("TO PUT a VALUE that is there takes as many", 3, tree + "put v 50 5;", 3, 40, 4);
        needs("TO REMOVE takes a copy of the ROOT", 1, "put v 10 1;", 1, 10, -1);
        needs("TO REMOVE takes the ROOT's copy and the leaf's", 2, tree, 3, 10, -1);
        // A ROOT of three ENTRIES: a copy of it, one above, its half, the leaf's copy.
        needs("TO PUT takes four", 4, tree + "put v 50 5;put v 60 6;", 4, 5, 5);
    }

    private static void toOwn() {
        CloneVolumes x = made("blocks 20 room 3;volume v;");
        x.put(0, 10, 1);
        due("FRESH, and its COUNT is 1: it is that", x.put(0, 20, 2), 1);
        due("FRESH, and its COUNT is 1: it is that", x.volume(0, 0), 0);
        x.copy(0);
        x.put(0, 20, 3);
        due("FRESH, COUNT 2: a copy", x.volume(0, 0), 1);
        due("FRESH, COUNT 2: the other one stays", x.volume(1, 0), 0);
        due("FRESH, COUNT 2: it has a COUNT less", x.block(0, 0), 1);
        reads("FRESH, COUNT 2", x, 0, 10, 1, 20, 3);
        reads("FRESH, COUNT 2", x, 1, 10, 1, 20, 2);
        x.put(1, 20, 4);
        due("its COUNT is 1 again: it is that", x.volume(1, 0), 0);
        x.checkpoint();
        x.put(1, 20, 5);
        due("not FRESH, COUNT 1: a copy", x.volume(1, 0), 2);
        due("not FRESH, COUNT 1: HELD then", x.block(0, 5), 1);
        x = made(TREE + "clone w of v;");
        x.put(0, 40, 5);
        due("each BLOCK in ENTRIES has a COUNT more", x.block(0, 0), 2);
        entries("what refers to it refers to the copy", x, 3, 10, 0, 30, 4);
        entries("the other one is not changed", x, 1, 10, 0, 30, 2);
        x.put(1, 10, 6);
        // The old ROOT is not in use now: its ENTRIES count no more.
        due("it has a COUNT less (if that is 0, so have all in its ENTRIES)", x.block(1, 0), 0);
        due("it has a COUNT less (if that is 0, so have all in its ENTRIES)", x.block(0, 0), 1);
        due("it has a COUNT less (if that is 0, so have all in its ENTRIES)", x.block(2, 0), 1);
        entries("its own ROOT", x, 5, 10, 6, 30, 2);
    }

    private static void halves() {
        for (int room = 3; room <= 6; room++) {
            String words = "as many ENTRIES as room: " + room;
            StringBuilder text = new StringBuilder("blocks 8 room " + room + ";volume v;");
            for (int i = 0; i < room; i++) {
                due(words + ": not with fewer", made(text.toString()).volume(0, 3), i == 0 ? 0 : 1);
                text.append("put v ").append(10 * i).append(" ").append(i).append(";");
            }
            CloneVolumes x = made(text.toString());
            due(words + ": not ahead of the next PUT", x.volume(0, 3), 1);
            x = made(text + "put v 999 9;");
            due(words + ": three", x.volume(0, 3), 3);
            due(words + ": half of them (the greatest whole number not above) go", x.block(2, 3), room / 2 + 1);
            due(words + ": the others stay", x.block(0, 3), room - room / 2);
            due(words + ": the last of its ENTRIES", x.entry(2, 0, 0), 10 * (room - room / 2));
            due(words + ": with the first KEY of these", x.entry(1, 1, 0), 10 * (room - room / 2));
            due(words + ": and that BLOCK", x.entry(1, 1, 1), 2);
            due(words + ": with the first KEY of the ROOT", x.entry(1, 0, 0), 0);
            due(words + ": and it", x.entry(1, 0, 1), 0);
            due(words + ": all are there", x.volume(0, 1), room + 1);
        }
    }

    private static void twoOrMore() {
        String words = "or has 2 or more, and the TEST of splits holds";
        String all = "blocks 20 room 6;volume v;splits all;";
        due(words + ": none", made(all + "put v 10 1;").volume(0, 3), 1);
        due(words + ": one", made(all + "put v 10 1;put v 20 2;").volume(0, 3), 1);
        CloneVolumes x = made(all + "put v 10 1;put v 20 2;put v 30 3;");
        due(words + ": two", x.volume(0, 3), 3);
        entries(words + ": two", x, 0, 10, 1);
        entries(words + ": two", x, 2, 20, 2, 30, 3);
        x = made("blocks 20 room 6;volume v;splits entries=3;put v 10 1;put v 20 2;put v 30 3;");
        due(words + ": does not hold", x.volume(0, 3), 1);
        x.put(0, 40, 4);
        due(words + ": holds", x.volume(0, 3), 3);
        x = made("blocks 20 room 6;volume v;splits level=1;put v 1 1;put v 2 2;put v 3 3;put v 4 4;put v 5 5;put v 6 6;put v 7 7;");
        due(words + ": not at LEVEL 0", x.volume(0, 2), 2);
        x.put(0, 8, 8);
        due(words + ": at LEVEL 1", x.volume(0, 2), 3);
    }

    private static void notAgain() {
        String words = "a half of it does not again";
        String keys = "volume v;put v 1 1;put v 2 2;put v 3 3;put v 4 4;";
        CloneVolumes x = made("blocks 20 room 4;splits entries=2;volume v;");
        due(words, Check.on(x, Check.image(made("blocks 20 room 4;" + keys))) ? 1 : 0, 1);
        // A leaf of four SPLITS, as it is full; its half of two would SPLIT by the TEST.
        due(words + ": the ROOT's", x.put(0, 5, 5), 3);
        due(words + ": the ROOT's", x.volume(0, 3), 3);
        // Under a ROOT of two, a leaf of two and one of four.
        String more = keys + "put v 5 5;put v 6 6;";
        x = made("blocks 20 room 4;splits entries=2 and level=0;volume v;");
        due(words, Check.on(x, Check.image(made("blocks 20 room 4;" + more))) ? 1 : 0, 1);
        due(words + ": under the ROOT, four", x.block(x.path(0, 6, 1), 3), 4);
        due(words + ": under the ROOT", x.put(0, 7, 7), 3);
        due(words + ": under the ROOT", x.volume(0, 3), 4);
        entries(words + ": behind the ENTRY to it one comes", x, x.volume(0, 0), 1, 0, 3, x.path(0, 3, 1), 5, x.path(0, 7, 1));
    }

    private static void rootSplits() {
        CloneVolumes x = made(LEAF + "put v 40 4;");
        due("If the ROOT SPLITS, one is TAKEN first, a LEVEL above", x.volume(0, 0), 1);
        due("If the ROOT SPLITS, one is TAKEN first, a LEVEL above", x.block(1, 2), 1);
        due("then the half", x.path(0, 40, 1), 2);
        x = made(LEAF);
        due("its ROOT is OWNED ahead of that", x.put(0, 40, 4), 3);
        due("its ROOT is OWNED ahead of that", x.path(0, 10, 1), 1);
        due("its ROOT is OWNED ahead of that", x.volume(0, 0), 2);
        due("its ROOT is OWNED ahead of that", x.path(0, 40, 1), 3);
        x = made("blocks 20 room 3;volume v;put v 7 7;");
        due("in an empty VOLUME a BLOCK of LEVEL 0 is TAKEN", x.block(0, 2), 0);
        entries("with that ENTRY, its ROOT", x, x.volume(0, 0), 7, 7);
    }

    private static void halfForAKey() {
        String words = "the second one, if its first KEY is no greater, else the first";
        CloneVolumes x = made(LEAF + "put v 30 9;");
        reads(words + ": the same", x, 0, 10, 1, 20, 2, 30, 9);
        entries(words + ": the same", x, 2, 30, 9);
        entries(words + ": the same", x, 0, 10, 1, 20, 2);
        x = made(LEAF + "put v 29 9;");
        entries(words + ": less", x, 0, 10, 1, 20, 2, 29, 9);
        x = made(LEAF + "put v 31 9;");
        entries(words + ": greater", x, 2, 30, 3, 31, 9);
        // A full leaf under the ROOT, 2 (30, 40, 50): its second half begins with 50.
        words = "so on from it, or the half of it for the KEY";
        x = made(TREE + "put v 50 5;put v 50 9;");
        reads(words + ": the same", x, 0, 10, 1, 20, 2, 30, 3, 40, 4, 50, 9);
        entries(words + ": the same", x, 3, 50, 9);
        x = made(TREE + "put v 50 5;put v 49 9;");
        entries(words + ": less", x, 2, 30, 3, 40, 4, 49, 9);
        x = made(TREE + "put v 50 5;put v 51 9;");
        entries(words + ": greater", x, 3, 50, 5, 51, 9);
    }

    private static void innerHalves() {
        // The ROOT 1 over 0 (10, 20), 2 (30, 40), 3 (50, 60): full.
        String text = TREE + "put v 50 5;put v 60 6;";
        String words = "the half of the ROOT for the KEY";
        CloneVolumes x = made(text + "put v 50 9;");
        entries(words, x, x.volume(0, 0), 10, 1, 50, 5);
        entries(words + ": the first", x, 1, 10, 0, 30, 2);
        entries(words + ": the second", x, 5, 50, 3);
        reads(words + ": the same", x, 0, 10, 1, 20, 2, 30, 3, 40, 4, 50, 9, 60, 6);
        x = made(text + "put v 49 9;");
        due(words + ": less", x.path(0, 49, 1), 1);
        due(words + ": less", x.path(0, 49, 2), 2);
        entries(words + ": less", x, 2, 30, 3, 40, 4, 49, 9);
        x = made(text + "put v 51 9;");
        due(words + ": greater", x.path(0, 51, 1), 5);
        entries(words + ": greater", x, 3, 50, 5, 51, 9, 60, 6);
    }

    private static void entriesGo() {
        CloneVolumes x = made("blocks 8 room 6;volume v;put v 10 1;put v 20 2;put v 30 3;put v 40 4;");
        x.remove(0, 20);
        entries("its ENTRY goes: one amid others", x, 1, 10, 1, 30, 3, 40, 4);
        x.remove(0, 10);
        entries("its ENTRY goes: the first", x, 1, 30, 3, 40, 4);
        x.remove(0, 40);
        entries("its ENTRY goes: the last", x, 1, 30, 3);
        due("a ROOT of LEVEL 0 with one ENTRY stays", x.volume(0, 0), 1);
        due("a BLOCK without ENTRIES goes", x.remove(0, 30), 0);
        due("a VOLUME without a BLOCK is empty", x.volume(0, 0), NONE);
        due("a VOLUME without a BLOCK is empty, but there", x.has(1), 1);
        due("a BLOCK without ENTRIES goes: FREE", x.has(4), 7);
        due("a KEY that is there: no more", x.remove(0, 30), NONE);
        due("an empty one can be PUT in again", x.put(0, 5, 5), 1);
    }

    private static void blocksGo() {
        // The ROOT 1 over 0 (10, 20), 2 (30, 40), 3 (50, 60).
        CloneVolumes x = made(TREE + "put v 50 5;put v 60 6;");
        due("all on the way to it are OWNED", x.remove(0, 30), 2);
        due("a BLOCK without ENTRIES goes, so does the ENTRY to it", x.remove(0, 40), 1);
        int root = x.volume(0, 0);
        entries("so does the ENTRY to it: amid others", x, root, 10, 0, 50, 3);
        due("the KEYS between go where the last no greater leads", x.path(0, 40, 1), 0);
        x = made(TREE + "put v 50 5;put v 60 6;");
        x.remove(0, 10);
        x.remove(0, 20);
        entries("so does the ENTRY to it: the first", x, x.volume(0, 0), 30, 2, 50, 3);
        due("the first without one", x.path(0, 5, 1), 2);
        x.put(0, 5, 5);
        reads("the first without one", x, 0, 5, 5, 30, 3, 40, 4, 50, 5, 60, 6);
        // LEVEL 2 over 1 over leaves of one or two KEYS each.
        x = made("blocks 48 room 3;splits all;volume v;put v 1 1;put v 2 2;put v 3 3;put v 4 4;put v 5 5;");
        int levels = x.volume(0, 2);
        due("and so on: levels", levels, 4);
        for (int key = 1; key <= 5; key++) {
            due("and so on", x.remove(0, key) >= 0 ? 1 : 0, 1);
            due("and so on: KEYS left", x.volume(0, 1), 5 - key);
            due("and so on: no BLOCK in use without a TREE", x.has(2), x.volume(0, 3));
        }
        due("and so on: empty", x.volume(0, 0), NONE);
    }

    private static void rootsGo() {
        CloneVolumes x = made(TREE);
        x.remove(0, 30);
        due("while the ROOT is above LEVEL 0 and has one ENTRY", x.remove(0, 40), 0);
        due("the BLOCK of that is the ROOT in its place", x.volume(0, 0), 0);
        due("the BLOCK of that is the ROOT in its place: LEVELS", x.volume(0, 2), 1);
        due("a COUNT more, and one less", x.block(0, 0), 1);
        due("it has a COUNT less: in use are", x.has(2), 1);
        reads("the BLOCK of that is the ROOT", x, 0, 10, 1, 20, 2);
        x = made(TREE + "clone w of v;");
        x.remove(0, 30);
        x.remove(0, 40);
        due("one that is shared is the ROOT of one, in a TREE of another", x.block(0, 0), 2);
        reads("one that is shared", x, 1, 10, 1, 20, 2, 30, 3, 40, 4);
        due("so it is copied when it is changed", x.put(0, 10, 9), 1);
        reads("so it is copied when it is changed", x, 1, 10, 1, 20, 2, 30, 3, 40, 4);
        x = made("blocks 48 room 3;splits all;volume v;put v 1 1;put v 2 2;put v 3 3;put v 4 4;put v 5 5;");
        // Of LEVEL 3 over two of LEVEL 2, of which the first leads to 1 alone.
        x.remove(0, 5);
        x.remove(0, 4);
        x.remove(0, 3);
        due("while: not as long as it has two", x.volume(0, 2), 4);
        x.remove(0, 2);
        due("while: down to LEVEL 0 at once", x.volume(0, 2), 1);
        reads("while", x, 0, 1, 1);
        due("while: in use is the leaf alone", x.has(2), 1);
        due("while: its COUNT", x.block(x.volume(0, 0), 0), 1);
    }

    private static void copiesAndDrops() {
        CloneVolumes x = made(TREE);
        due("TO COPY: the new one has its ROOT", x.volume(x.copy(0), 0), 1);
        due("TO COPY: a COUNT more", x.block(1, 0), 2);
        due("TO COPY: no more of those below", x.block(0, 0), 1);
        due("TO DROP: no deeper than where another one shares", x.drop(0), 0);
        due("TO DROP: its ROOT has a COUNT less", x.block(1, 0), 1);
        due("TO DROP: if that is 0, so have all in its ENTRIES", x.drop(1), 3);
        due("TO DROP: if that is 0, so have all in its ENTRIES", x.block(0, 0) + x.block(2, 0), 0);
        x = made(TREE + "put v 50 5;put v 60 6;put v 70 7;");
        due("TO DROP: and so on", x.volume(0, 2), 3);
        due("TO DROP: and so on", x.drop(0), x.has(3));
        due("TO DROP: and so on", x.has(2), 0);
        due("TO COPY one of no BLOCK", made("blocks 8 room 3;volume v;").copy(0), 1);
    }

    private static void crashes() {
        CloneVolumes x = made(TREE + "volume e;volume f;put f 1 1;");
        x.put(0, 40, 9);
        x.put(1, 5, 5);
        x.drop(2);
        x.copy(0);
        x.copy(0);
        due("how many BLOCKS that were FRESH", x.crash(), 3);
        due("all VOLUMES are those of the CHECKPOINT", x.has(1), 3);
        due("all ROOTS", x.volume(0, 0), 1);
        due("all ROOTS: empty", x.volume(1, 0), NONE);
        due("all ROOTS: DROPPED", x.volume(2, 0), 3);
        due("all ROOTS: new", x.volume(3, 0), NONE);
        due("all ROOTS: new", x.volume(3, 1), NONE);
        due("all COUNTS", x.block(1, 0), 1);
        due("nothing is HELD", x.has(3), 0);
        reads("all is as it was at the last one", x, 0, 10, 1, 20, 2, 30, 3, 40, 4);
    }

    private static void written() {
        CloneVolumes x = made(TREE);
        due("TAKEN, or whose ENTRIES change: not FRESH", x.put(0, 40, 5), 2);
        due("whose ENTRIES change: the leaf alone", x.put(0, 40, 6), 1);
        due("whose ENTRIES change: none, the VALUE is there", x.put(0, 40, 6), 0);
        due("whose ENTRIES change: is KEPT with none", x.kept(2, 2), 0);
        due("whose ENTRIES change: costs nothing", x.has(5), 3);
        due("TAKEN: the leaf, of which the ROOT's ENTRIES change", x.put(0, 10, 1), 2);
        due("whose ENTRIES change: the KEY goes", x.remove(0, 10), 1);
        due("TAKEN: the half, and the ROOT has an ENTRY more", made(TREE + "put v 50 5;").writes(0, 60, 0), 3);
        x = made(TREE);
        x.remove(0, 10);
        due("that is in use behind it: the leaf goes, the ROOT too", x.remove(0, 20), 0);
        x = made(TREE + "put v 50 5;put v 60 6;remove v 60;");
        due("that is in use behind it: TAKEN, and not in use: the leaf", x.remove(0, 50), 1);
        x = made("blocks 8 room 3;volume v;put v 1 1;");
        due("that is in use behind it: TAKEN, and not in use: the ROOT", x.remove(0, 1), 0);
        due("that is in use behind it: costs nothing", x.has(5), 0);
        due("copy writes none", x.copy(0) + x.kept(1, 2), 1);
        due("drop writes none", x.drop(0) + x.kept(2, 2), 0);
        due("checkpoint writes none", x.checkpoint() * 0 + x.kept(3, 2), 0);
        due("crash writes none", x.crash() * 0 + x.kept(4, 2), 0);
        x = made("blocks 48 room 3;volume v;");
        x.seed(5);
        x.chance(40);
        due("once: by the seed too, as all in use are new", x.kept(0, 2), x.has(2));
        due("once: costs 1 each", x.has(5), x.has(2));
    }

    private static void costs() {
        String words = "0 .. 99 (below is 0, above 99)";
        String[] sums = {"0-1", "0-9999", "0", "1", "98", "99", "100", "9999"};
        int[] want = {0, 0, 0, 1, 98, 99, 99, 99};
        for (int i = 0; i < sums.length; i++) {
            CloneVolumes x = made("blocks 8 room 3;volume v;costs " + sums[i] + ";");
            due(words + ": writes() of " + sums[i], x.writes(0, 1, 1), want[i]);
            x.put(0, 1, 1);
            due(words + ": " + sums[i], x.has(5), want[i]);
        }
        words = "by what it is then";
        CloneVolumes x = made("blocks 8 room 3;volume v;put v 1 1;costs 10*entries;");
        x.put(0, 2, 2);
        due(words + ": as many ENTRIES as behind the ACT", x.has(5), 20);
        x.remove(0, 2);
        due(words, x.has(5), 30);
        words = "999999 at most";
        for (int start = 999996; start <= 999999; start++) {
            x = made("blocks 8 room 3;volume v;costs 2;");
            byte[] image = Check.image(x);
            image[0] = 15;
            image[1] = 66;
            image[2] = (byte) (start - 999936);
            due(words, Check.on(x, Check.sealed(image)) ? 1 : 0, 1);
            due(words, x.has(5), start);
            x.put(0, 1, 1);
            due(words + ": from " + start, x.has(5), Math.min(999999, start + 2));
            x.put(0, 2, 2);
            due(words + ": from " + start, x.has(5), Math.min(999999, start + 4));
            x.undo();
            x.undo();
            due(words + ": undone", x.has(5), start);
        }
    }

    private static void sameKept(String words, CloneVolumes x, List<int[]> all) {
        int told = Math.min(40, all.size());
        due(words + ": how many", x.has(6), told);
        for (int k = 0; k < told; k++) {
            for (int what = 0; what < 3; what++) {
                due(words + ": kept(" + k + ", " + what + ")", x.kept(k, what), all.get(all.size() - told + k)[what]);
            }
        }
        due(words + ": behind", x.kept(told, 0), NONE);
        due(words + ": ahead", x.kept(-1, 0), NONE);
    }

    private static void add(List<int[]> all, int act, int volume, int wrote) {
        if (wrote != NONE) {
            all.add(new int[] {act, volume, wrote});
        }
    }

    /** ACTS of unlike kinds, VOLUMES and BLOCKS, as they are KEPT; some undone between. */
    private static void kept() {
        CloneVolumes x = made("blocks 48 room 3;volume v;volume w;");
        List<int[]> all = new ArrayList<>();
        int last = 0;
        for (int i = 0; i < 130; i++) {
            switch (i % 7) {
                case 0: add(all, 0, 0, x.put(0, i % 11, i)); break;
                case 1: add(all, 0, 1, x.put(1, i % 5, i)); break;
                case 2: last = x.copy(i % 2); add(all, 2, last, Math.min(0, last)); break;
                case 3: add(all, 3, last, Math.min(0, x.drop(last))); break;
                case 4: x.checkpoint(); add(all, 4, 255, 0); break;
                case 5: add(all, 1, 0, x.remove(0, x.key(0, 0))); break;
                default: x.crash(); add(all, 5, 255, 0);
            }
            sameKept("the last 40 are told, " + (i + 1), x, all);
            if (i % 50 == 49) {
                for (int n = 1; n <= 20; n++) {
                    due("no more, when it is undone", x.undo() ? 1 : 0, 1);
                    all.remove(all.size() - 1);
                    sameKept("no more, when it is undone, " + n, x, all);
                }
                due("no more than 20", x.undo() ? 1 : 0, 0);
            }
        }
        x = made("blocks 48 room 3;volume v;");
        x.chance(5);
        due("6 by the seed", x.kept(0, 0), 6);
        due("255 without", x.kept(0, 1), 255);
        x.put(9, 1, 1);
        x.remove(0, 999);
        x.copy(9);
        x.drop(9);
        x.chance(0);
        due("what is refused is not KEPT", x.has(6), 1);
    }

    private static void undone() {
        for (int acts = 18; acts <= 45; acts++) {
            CloneVolumes x = made("blocks 20 room 3;volume v;");
            List<byte[]> images = new ArrayList<>();
            for (int i = 0; i < acts; i++) {
                images.add(Check.image(x));
                x.put(0, i % 9, i);
            }
            int can = Math.min(20, acts);
            due("The last 20 can be undone, of " + acts, x.has(8), can);
            for (int n = 1; n <= can; n++) {
                due("The last 20 can be undone, of " + acts, x.undo() ? 1 : 0, 1);
                due("The last 20 can be undone: as it was", Arrays.equals(images.get(acts - n), Check.image(x)) ? 1 : 0, 1);
            }
            due("The last 20 can be undone, not one more", x.undo() ? 1 : 0, 0);
            due("The last 20 can be undone, not one more", x.status(4), 1);
            due("and on from there", x.put(0, 500, 5), x.kept(x.has(6) - 1, 2));
            due("and on from there", x.has(8), 1);
        }
    }

    private static int draw(long[] x, int m) {
        x[0] = (1103515245L * x[0] + 12345L) % (1L << 31);
        return (int) (x[0] / 64 % m);
    }

    /** By the seed, against plain maps: what each VOLUME reads then. */
    private static void bySeed() {
        String words = "BY THE SEED";
        for (int seed : new int[] {0, 1, 2, 3, 63, 64, 12345, 1 << 30, Integer.MAX_VALUE - 1, Integer.MAX_VALUE}) {
            int first = seed % 2;
            CloneVolumes x = made("blocks 48 room 6;volume a;volume b;volume c;volume d;churn 30;");
            x.drop(1 - first);
            x.drop(2);
            x.seed(seed);
            long[] dice = {seed};
            TreeMap<Integer, Integer> one = new TreeMap<>();
            TreeMap<Integer, Integer> three = new TreeMap<>();
            for (int turn = 0; turn < 3; turn++) {
                int done = 0;
                for (int i = 0; i < 20; i++) {
                    draw(dice, 100);
                    TreeMap<Integer, Integer> which = draw(dice, 2) == 0 ? one : three;
                    int what = draw(dice, 3);
                    int key = draw(dice, 40);
                    if (what < 2) {
                        which.put(key, draw(dice, 100));
                        done++;
                    } else if (which.remove(key) != null) {
                        done++;
                    }
                }
                due(words + ": how many KEYS were PUT and REMOVED, seed " + seed, x.chance(20), done);
            }
            sameMap("a DRAW of these (by numbers), seed " + seed, x, first, one);
            sameMap("a DRAW of these (by numbers), seed " + seed, x, 3, three);
        }
    }

    private static void sameMap(String words, CloneVolumes x, int volume, TreeMap<Integer, Integer> want) {
        due(words + ": KEYS", x.volume(volume, 1), want.size());
        for (int key = 0; key < 100; key++) {
            due(words + ": KEY " + key, x.read(volume, key), want.getOrDefault(key, NONE));
        }
    }

    private static void bySeedWithout() {
        String words = "if there are VOLUMES";
        CloneVolumes x = made("blocks 8 room 3;churn 100;");
        x.seed(7);
        due(words + ": none", x.chance(3), 0);
        Check.store(x, "blocks 48 room 3;volume v;");
        // Three DRAWS of 100 came ahead.
        long[] dice = {7};
        for (int i = 0; i < 4; i++) {
            draw(dice, 100);
        }
        draw(dice, 1);
        int what = draw(dice, 3);
        int key = draw(dice, 40);
        int value = draw(dice, 100);
        due(words + ": one", x.chance(1), what < 2 ? 1 : 0);
        due(words + ": one", x.key(0, 0), what < 2 ? key : NONE);
        due(words + ": one", x.read(0, key), what < 2 ? value : NONE);
        words = "what can't be is not done";
        StringBuilder text = new StringBuilder("blocks 8 room 3;");
        for (char c = 'a'; c <= 'h'; c++) {
            text.append("volume ").append(c).append(";put ").append(c).append(" 500 1;");
        }
        x = made(text.toString());
        byte[] before = Check.image(x);
        due(words + ": none of forty", x.chance(40), 0);
        due(words + ": all stays", Arrays.equals(before, Check.image(x)) ? 1 : 0, 1);
        due(words + ": is KEPT", x.has(6), 1);
        due(words + ": WROTE none", x.kept(0, 2), 0);
        halfDone();
        words = "one ACT";
        x = made("blocks 48 room 3;volume v;churn 50;");
        before = Check.image(x);
        x.chance(40);
        due(words, x.has(8), 1);
        x.undo();
        due(words + ": undone with its CHECKPOINTS", Arrays.equals(before, Check.image(x)) ? 1 : 0, 1);
    }

    /** A PUT by the seed that changes the ROOT, which is its own, ahead of where none is left to be TAKEN. */
    private static void halfDone() {
        String words = "what can't be is not done, so it WRITES none";
        CloneVolumes x = made("blocks 8 room 3;volume v;put v 50 1;put v 60 1;put v 70 1;put v 80 1;put v 55 1;"
            + "volume a;put a 1 1;volume b;put b 1 1;");
        due(words + ": the ROOT and the last leaf", x.put(0, 80, 9), 2);
        due(words + ": one is left for the copy of the first leaf", x.has(4), 1);
        byte[] before = Check.image(x);
        int seed = -1;
        boolean hit = false;
        while (!hit) {
            seed++;
            long[] dice = {seed};
            draw(dice, 100);
            hit = draw(dice, 3) == 0 & draw(dice, 3) < 2;
        }
        x.seed(seed);
        due(words, x.chance(1), 0);
        due(words + ": KEPT", x.kept(1, 2), 0);
        due(words + ": all stays", Arrays.equals(before, Check.image(x)) ? 1 : 0, 1);
    }

    /** All of 512 calls answer as the first ones do. */
    private static void calls() {
        CloneVolumes x = new CloneVolumes();
        x.feed(0x626c6f63, 0x6b732038, 0x20726f6f, 0x6d20333b, 0x766f6c75);
        x.feed(0x6d652076, 0x3b202020, 0x20202020, 0x20202020, 0x20202020);
        due("at most 512 calls: 3", x.store(), 2);
        for (int i = 3; i < 511; i += 2) {
            due("at most 512 calls: " + i, x.put(0, 1, i), 1);
            due("at most 512 calls: " + (i + 1), x.read(0, 1), i);
        }
        due("at most 512 calls: 512", x.has(5), 254);
    }
}
