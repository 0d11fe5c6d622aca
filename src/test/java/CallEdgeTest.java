import java.util.Arrays;

/**
 * Parts III and IV of the document and the sentences of its promises that name an edge, call by call.
 * The label of a check begins with the promise's number and the words that it holds the class to.
 */
public final class CallEdgeTest {
    private static final int NONE = CloneVolumes.NONE;
    private static final long NOTHING = CloneVolumes.NOTHING;
    private static final int[] FAR = {-2, -3, -1000, 1000000, Integer.MIN_VALUE, Integer.MIN_VALUE + 1, Integer.MAX_VALUE};
    /** The ROOT 1 over 0 (10, 20) and 2 (30, 40). */
    private static final String TREE = "blocks 20 room 3;volume v;put v 10 1;put v 20 2;put v 30 3;put v 40 4;";
    private static final String LEAF = "blocks 8 room 3;volume v;put v 10 1;volume e;";

    private CallEdgeTest() {
    }

    public static void main(String[] args) {
        theTape();
        theFullTape();
        stores();
        storeAfterStore();
        manyStores();
        faults();
        counts();
        letters();
        volumesAndBlocks();
        reading();
        wayAndShared();
        differing();
        writing();
        losing();
        roomAndBack();
        seeing();
        fitting();
        telling();
        putting();
        copying();
        keeping();
        chances();
        undoing();
        asking();
        manyQuestions();
        images();
        imagesOn();
        imagesRefused();
        tallImages();
        refusals();
        Check.close();
    }

    private static CloneVolumes made(String text) {
        CloneVolumes x = new CloneVolumes();
        Check.due("store() of " + text, Check.store(x, text) > 0, true);
        return x;
    }

    private static void due(String words, long got, long want) {
        Check.due(words, got, want);
    }

    private static void due(String words, boolean got, boolean want) {
        Check.due(words, got, want);
    }

    private static boolean same(CloneVolumes x, CloneVolumes y) {
        return Arrays.equals(Check.image(x), Check.image(y));
    }

    // ---- 1 to 3: the tape

    private static void theTape() {
        for (int old = 1570; old <= 1600; old++) {
            CloneVolumes x = new CloneVolumes();
            for (int i = 0; i < 80; i++) {
                x.feed(0, 0, 0, 0, 0);
            }
            x.end(old);
            boolean may = old <= 1580;
            due("2: if there would be more than 1600, from " + old, x.feed(1, 2, 3, 4, 5), may ? old + 20 : NONE);
            due("2: refused (0)", x.status(0), may ? 0 : 1);
            due("2: a refused one leaves what is there", x.end(may ? old + 20 : old), true);
            due("2: a refused one adds nothing", x.end(may ? old + 21 : old + 1), false);
        }
        CloneVolumes x = made(TREE);
        due("3: its first n bytes alone: none", x.end(0), true);
        for (int n : FAR) {
            due("3: not so many, or below 0: " + n, x.end(n), false);
        }
        due("3: refused (0)", x.status(0), FAR.length);
        // "total 123 " and on: cut behind the first digit, then fed on behind that.
        x.feed(0x746f7461, 0x6c203132, 0x33343536, 0x37383930, 0x31323334);
        x.end(7);
        due("3: its first n bytes alone", x.ask(), 20);
        x.feed(0x746f7461, 0x6c203132, 0x33343536, 0x37383930, 0x31323334);
        x.end(7);
        x.feed(0x30202020, 0x20202020, 0x20202020, 0x20202020, 0x20202020);
        due("2: behind those on the tape", x.ask(), 200);
        x.feed(0x66697273, 0x7420616c, 0x6c6c6c6c, 0x6c6c6c6c, 0x6c6c6c6c);
        x.end(9);
        due("3: its first n bytes alone", x.ask(), 0);
        x.feed(0xffffffff, 0x80808080, 0x7f7f7f7f, 0, -1);
        due("2: any bytes: no text", x.ask(), NOTHING);
        due("2: any bytes: no text", x.fault(1), 0);
    }

    private static String filled(String text, int length, char with) {
        StringBuilder all = new StringBuilder(text);
        while (all.length() < length) {
            all.append(with);
        }
        return all.toString();
    }

    private static void theFullTape() {
        CloneVolumes x = made(TREE);
        String blanks = filled("", 1600, ' ');
        due("2: 1600 bytes: a number last", Check.ask(x, "total 7+" + blanks.substring(9) + "5"), 240);
        due("2: 1600 bytes: a word last", Check.ask(x, "total 0*" + blanks.substring(14) + "number"), 0);
        due("2: 1600 bytes: part of a word last", Check.ask(x, "total 0*" + blanks.substring(13) + "numbe"), NOTHING);
        due("2: 1600 bytes: part of a word last", x.fault(1), 1595);
        due("2: 1600 bytes: a sign last", Check.ask(x, "total (7" + blanks.substring(9) + ")"), 140);
        due("2: 1600 bytes: blanks last", Check.ask(x, "total 7" + blanks.substring(7)), 140);
        due("2: 1600 bytes: blanks alone", Check.ask(x, blanks), NOTHING);
        due("2: 1600 bytes: blanks alone", x.fault(1), 1600);
        String sum = filled("total 1", 1600, '+').replace("++", "+1");
        due("2: 1600 bytes: a long SUM", Check.ask(x, sum.substring(0, 1599)), 20 * 797);
        due("2: 1600 bytes: a long SUM that ends too soon", Check.ask(x, sum.substring(0, 1599) + "+"), NOTHING);
        due("2: 1600 bytes: a long SUM that ends too soon", x.fault(1), 1600);
        StringBuilder test = new StringBuilder("often all");
        while (test.length() < 1585) {
            test.append(" and all or all");
        }
        due("2: a long TEST", Check.ask(x, test.toString()), 20);
        String letters = filled("blocks 9 room 3;volume ", 1600, 'x');
        due("2: 1600 bytes: letters", Check.store(x, letters), NONE);
        due("2: 1600 bytes: letters", x.fault(1), 29);
        due("2: 1600 bytes: digits", Check.store(x, filled("blocks ", 1600, '9')), NONE);
        due("2: 1600 bytes: digits", x.fault(1), 11);
    }

    // ---- 4, 5: stores and their faults

    private static void stores() {
        CloneVolumes x = made(TREE);
        x.put(0, 10, 9);
        x.copy(0);
        Check.see(x, 10, 9);
        x.seed(4711);
        byte[] before = Check.image(x);
        String[] bad = {"", " ", "x", "blocks 8 room 3;volume v;put v 5 5;x", "blocks 8 room 3;picks ((((((", "blocks 7 room 3;",
            "blocks 8 room 3;splits not not not not not not not all;", "blocks 8 room 3;volume v;volume v;"};
        for (int i = 0; i < bad.length; i++) {
            due("4: NONE with a FAULT: " + bad[i], Check.store(x, bad[i]), NONE);
            due("4: refused (1)", x.status(1), i + 1);
            due("4: all stays: " + bad[i], Arrays.equals(before, Check.image(x)), true);
            due("4: all stays: KEPT", x.has(6), 2);
            due("4: all stays: can be undone", x.has(8), 2);
            due("4: all stays: SEEN", x.has(7), 1);
            due("4: all stays: room", x.has(9), 3);
            due("4: all stays: NAMES", x.letter(0, 0), 22);
            due("4: the tape goes", x.end(1), false);
        }
        due("4: all stays: picks, splits, costs", x.put(1, 40, 8), 2);
        CloneVolumes y = made("blocks 48 room 6;volume v;");
        y.seed(4711);
        y.chance(9);
        Check.store(x, "blocks 48 room 6;volume v;");
        x.chance(9);
        due("4: the seed stays", same(x, y), true);
        y = new CloneVolumes();
        due("4: one without a STATEMENT has FAULT 1 at its length", y.store(), NONE);
        due("4: one without a STATEMENT has FAULT 1 at its length", y.fault(0), 1);
        due("4: one without a STATEMENT has FAULT 1 at its length", y.fault(1), 0);
    }

    /** Each STORE is as on a new object, whatever stores, acts and faults were ahead of it. */
    private static void storeAfterStore() {
        String[] texts = {TREE, "blocks 8 room 3;volume a;put a 1 1;churn 100;picks 0-block;", "blocks 48 room 6;volume b;splits all;put b 5 5;put b 6 6;put b 7 7;",
            "blocks 9 room 4;costs 50;volume c;volume d;put d 1 1;", LEAF, "blocks 8 room 3;", "blocks 20 room 3;volume v;put v 500 1;"};
        CloneVolumes x = new CloneVolumes();
        for (int i = 0; i < 60; i++) {
            String text = texts[i * i % texts.length];
            if (i % 5 == 3) {
                Check.store(x, text + "picks ((((((((");
            }
            CloneVolumes y = made(text);
            due("4: all is as told: how many STATEMENTS", Check.store(x, text), text.replaceAll("[^;]", "").length());
            due("4: all is as told: " + text, same(x, y), true);
            due("4: nothing can be undone", x.has(8), 0);
            due("4: nothing is KEPT", x.has(6), 0);
            due("4: nothing is SEEN", x.has(7), 0);
            due("4: nothing can be undone", x.undo(), false);
            for (int what = 0; what < 10; what++) {
                due("4: all is as told: has(" + what + ")", x.has(what), y.has(what));
            }
            for (int v = 0; v < 8; v++) {
                due("4: all is as told: letter", x.letter(v, 0), y.letter(v, 0));
            }
            x.seed(i);
            y.seed(i);
            due("4: all is as told: churn", x.chance(30), y.chance(30));
            due("4: all is as told: churn, picks, splits, costs", same(x, y), true);
            x.put(0, 3, 3);
            x.copy(0);
            Check.see(x, 1, 1);
        }
    }

    /** Long formulas, STORE after STORE: none is in the way of the next. */
    private static void manyStores() {
        StringBuilder sum = new StringBuilder("0");
        while (sum.length() < 220) {
            sum.append("+1-1");
        }
        CloneVolumes x = new CloneVolumes();
        for (int i = 0; i < 24; i++) {
            String picks = i % 2 == 0 ? "0-block;" : "(block-4)*(block-4);";
            Check.store(x, "blocks 8 room 3;volume v;picks " + sum + "+" + picks + "put v 1 1;");
            due("4: by all that is told of picks: STORE " + i, x.volume(0, 0), i % 2 == 0 ? 7 : 4);
        }
    }

    private static void faults() {
        CloneVolumes x = new CloneVolumes();
        for (int what : FAR) {
            due("5: NONE for another what: " + what, x.fault(what), NONE);
        }
        due("5: 0 ahead of any", x.fault(0), 0);
        due("5: NONE without", x.fault(1), NONE);
        due("5: another what", x.fault(2), NONE);
        due("5: another what", x.fault(-1), NONE);
        Check.store(x, "blocks 8 room 3;picks (((((((");
        due("5: of the latest store()", x.fault(0), 4);
        due("5: its place", x.fault(1), 28);
        Check.ask(x, "?");
        due("5: ask() without a store does nothing else", x.fault(0), 4);
        Check.store(x, "blocks 8 room 3;picks ((((((1))))));");
        due("5: what was open in a text with a FAULT is open no more", x.fault(0), 0);
        due("5: NONE without", x.fault(1), NONE);
        Check.ask(x, "total refs refs refs refs refs refs refs");
        due("5: of the latest ask()", x.fault(0), 4);
        Check.ask(x, "total refs refs refs refs refs refs 1");
        due("5: what was open in a text with a FAULT is open no more", x.fault(0), 0);
        Check.ask(x, "total (");
        due("5: at the text's length", x.fault(1), 7);
        Check.see(x, 1, 1);
        x.image();
        x.on();
        due("5: of the latest store() or ask() alone", x.fault(1), 7);
        Check.store(x, "");
        due("5: place 0 is one", x.fault(1), 0);
    }

    // ---- 6 to 11: what there is

    private static void counts() {
        CloneVolumes x = made(TREE);
        for (int what : FAR) {
            due("6: NONE for others: " + what, x.has(what), NONE);
        }
        due("6: NONE for others", x.has(-1), NONE);
        due("6: NONE for others", x.has(10), NONE);
        x.put(0, 40, 5);
        x.drop(0);
        due("6: VOLUMES", x.has(1), 0);
        due("6: BLOCKS in use", x.has(2), 0);
        due("6: HELD ones", x.has(3), 3);
        due("6: FREE ones", x.has(4), 17);
        x.checkpoint();
        due("6: HELD ones", x.has(3), 0);
        due("6: FREE ones", x.has(4), 20);
    }

    private static void letters() {
        CloneVolumes x = made("blocks 8 room 3;volume abcdef;volume z;");
        for (int k : new int[] {-1, 6, 7, 12, Integer.MAX_VALUE, Integer.MIN_VALUE}) {
            due("7: letter k (0 .. 5): " + k, x.letter(0, k), NONE);
            due("7: letter k (0 .. 5): " + k, x.letter(1, k), NONE);
        }
        due("7: the last letter", x.letter(0, 5), 6);
        due("7: 0 behind it", x.letter(1, 1), 0);
        due("7: 0 behind it", x.letter(1, 5), 0);
        for (int v : new int[] {-1, 2, 7, 8, Integer.MAX_VALUE, Integer.MIN_VALUE}) {
            due("7: NONE when none was told: " + v, x.letter(v, 0), NONE);
        }
        due("7: ahead of a store", new CloneVolumes().letter(0, 0), NONE);
        x.drop(0);
        x.copy(1);
        due("7: of that number as the text told it", x.letter(0, 0), 1);
        due("7: none was told", x.letter(x.copy(1), 0), NONE);
    }

    private static void volumesAndBlocks() {
        CloneVolumes x = made(LEAF);
        due("8: how many KEYS", x.volume(0, 1), 1);
        int[] empty = {NONE, 0, 0, 0, 0, NONE};
        for (int what = 0; what < 6; what++) {
            due("8: empty: " + what, x.volume(1, what), empty[what]);
            due("8: none such", x.volume(2, what), NONE);
            due("8: none such", x.volume(-1, what), NONE);
            due("8: none such", x.volume(8, what), NONE);
        }
        for (int far : FAR) {
            due("8: none such", x.volume(far, 0), NONE);
            due("8: others", x.volume(0, far), NONE);
            due("9: none such", x.block(far, 0), NONE);
            due("9: others", x.block(0, far), NONE);
            due("10: none such", x.entry(far, 0, 0), NONE);
            due("10: none such", x.entry(0, far, 0), NONE);
            due("10: others", x.entry(0, 0, far), NONE);
            due("11: none such", x.kept(far, 0), NONE);
        }
        for (int what = 0; what < 6; what++) {
            due("9: the last BLOCK", x.block(7, what), 0);
            due("9: none such", x.block(8, what), NONE);
            due("9: none such", x.block(-1, what), NONE);
        }
        due("9: others", x.block(7, 6), NONE);
        due("9: others", x.block(7, -1), NONE);
        due("10: the first ENTRY", x.entry(0, 0, 0), 10);
        due("10: others", x.entry(0, 0, 2), NONE);
        due("10: others", x.entry(0, 0, -1), NONE);
        due("10: none such", x.entry(0, 1, 0), NONE);
        due("10: one that is FREE", x.entry(7, 0, 0), NONE);
        x.put(0, 20, 2);
        due("10: one that is HELD", x.entry(0, 0, 1), 1);
        due("10: one that is HELD has those of the CHECKPOINT alone", x.entry(0, 1, 0), NONE);
        x.drop(0);
        due("10: FREE again", x.entry(1, 0, 0), NONE);
        due("9: FREE again: (0, 0 of one that is FREE)", x.block(1, 2) + x.block(1, 3), 0);
        due("11: others", x.kept(0, 3), NONE);
        due("11: others", x.kept(0, -1), NONE);
        due("11: none such", x.kept(2, 0), NONE);
    }

    // ---- 12 to 17: reading, what is shared

    private static void reading() {
        CloneVolumes x = made(LEAF + "put v 0 0;put v 999 999;");
        due("12: the least KEY and VALUE", x.read(0, 0), 0);
        due("12: the greatest KEY and VALUE", x.read(0, 999), 999);
        due("12: no such KEY", x.read(0, 11), NONE);
        due("12: no such KEY", x.read(0, -1), NONE);
        due("12: no such KEY", x.read(0, 1000), NONE);
        for (int far : FAR) {
            due("12: none such", x.read(far, 10), NONE);
            due("12: none such", x.read(0, far), NONE);
            due("13: none such", x.key(far, 0), NONE);
            due("13: none such", x.key(0, far), NONE);
            due("14: no such VOLUME", x.total(far, 0, 999), NONE);
        }
        due("13: the first", x.key(0, 0), 0);
        due("13: the last", x.key(0, 2), 999);
        due("13: behind it", x.key(0, 3), NONE);
        due("13: ahead", x.key(0, -1), NONE);
        due("13: of one that is empty", x.key(1, 0), NONE);
        due("13: none such", x.key(2, 0), NONE);
        due("14: from one to another one: both count", x.total(0, 10, 999), 1000);
        due("14: behind the first", x.total(0, 11, 999), 999);
        due("14: ahead of the last", x.total(0, 10, 998), 1);
        due("14: one alone", x.total(0, 999, 999), 999);
        due("14: none", x.total(0, 11, 998), 0);
        due("14: to ahead of from", x.total(0, 999, 0), 0);
        due("14: as far as numbers go", x.total(0, Integer.MIN_VALUE, Integer.MAX_VALUE), 1000);
        due("14: as far as numbers go", x.total(0, Integer.MAX_VALUE, Integer.MIN_VALUE), 0);
        due("14: of one that is empty", x.total(1, 0, 999), 0);
        due("14: no such VOLUME", x.total(2, 0, 999), NONE);
        due("14: no such VOLUME", x.total(-1, 0, 999), NONE);
    }

    private static void wayAndShared() {
        CloneVolumes x = made(TREE + "volume e;clone w of v;");
        due("15: a KEY (0 .. 999)", x.path(0, 0, 1), 0);
        due("15: a KEY (0 .. 999)", x.path(0, 999, 1), 2);
        due("15: a KEY (0 .. 999)", x.path(0, -1, 0), NONE);
        due("15: a KEY (0 .. 999)", x.path(0, 1000, 0), NONE);
        due("15: the ROOT", x.path(0, 0, 0), 1);
        due("15: where it would be", x.path(0, 29, 1), 0);
        due("15: no way on", x.path(0, 0, 2), NONE);
        due("15: ahead", x.path(0, 0, -1), NONE);
        due("15: of one that is empty", x.path(1, 0, 0), NONE);
        due("15: none such", x.path(3, 0, 0), NONE);
        due("16: two", x.shared(0, 2), 3);
        due("16: which may be one", x.shared(0, 0), 3);
        due("16: one that is empty", x.shared(0, 1), 0);
        due("16: one that is empty, with itself", x.shared(1, 1), 0);
        due("16: none such", x.shared(0, 3), NONE);
        due("16: none such", x.shared(3, 0), NONE);
        due("16: none such", x.shared(-1, -1), NONE);
        for (int far : FAR) {
            due("15: none such", x.path(far, 0, 0), NONE);
            due("15: none such", x.path(0, far, 0), NONE);
            due("15: none such", x.path(0, 0, far), NONE);
            due("16: none such", x.shared(far, 0), NONE);
            due("16: none such", x.shared(0, far), NONE);
            due("17: none such", x.differs(far, 0, NONE), NONE);
            due("17: none such", x.differs(0, far, NONE), NONE);
        }
        x.put(2, 40, 9);
        due("16: in both", x.shared(0, 2), 1);
        x.put(2, 10, 9);
        due("16: none in both", x.shared(0, 2), 0);
    }

    private static void differing() {
        CloneVolumes x = made(TREE + "volume e;clone w of v;");
        due("17: alike", x.differs(0, 2, NONE), 0);
        due("17: alike: none such", x.differs(0, 2, 0), NONE);
        due("17: which may be one", x.differs(0, 0, NONE), 0);
        due("17: one that is empty, with itself", x.differs(1, 1, NONE), 0);
        int[] keys = {10, 20, 30, 40};
        due("17: that just one has: all", x.differs(0, 1, NONE), 4);
        due("17: that just one has: all, the other way", x.differs(1, 0, NONE), 4);
        for (int k = 0; k < 4; k++) {
            due("17: the k-th, rising", x.differs(0, 1, k), keys[k]);
            due("17: the k-th, rising, the other way", x.differs(1, 0, k), keys[k]);
        }
        due("17: none such", x.differs(0, 1, 4), NONE);
        for (int k : FAR) {
            due("17: none such: " + k, x.differs(0, 1, k), NONE);
        }
        x.put(2, 0, 0);
        x.put(2, 999, 0);
        x.put(2, 20, 0);
        x.remove(2, 30);
        int[] unlike = {0, 20, 30, 999};
        due("17: or that have unlike VALUES", x.differs(0, 2, NONE), 4);
        for (int k = 0; k < 4; k++) {
            due("17: the k-th, rising", x.differs(0, 2, k), unlike[k]);
            due("17: the k-th, rising, the other way", x.differs(2, 0, k), unlike[k]);
        }
        due("17: none such", x.differs(2, 0, 4), NONE);
    }

    // ---- 18 to 24: what it takes

    private static void writing() {
        CloneVolumes x = made("blocks 8 room 3;volume v;volume e;costs 7;");
        for (int value : new int[] {0, 1, 2, 999}) {
            x.put(0, 5, value);
            due("18: with another VALUE than it has: " + value, x.writes(0, 5, 0), 1);
            due("18: with another VALUE than it has: " + value, x.writes(0, 5, 1), 7);
            due("18: nothing is done", x.read(0, 5), value);
        }
        due("18: a KEY (0 .. 999)", x.writes(0, 0, 0), 1);
        due("18: a KEY (0 .. 999)", x.writes(0, 999, 0), 1);
        due("18: a KEY (0 .. 999)", x.writes(0, -1, 0), NONE);
        due("18: a KEY (0 .. 999)", x.writes(0, 1000, 0), NONE);
        due("18: others", x.writes(0, 5, 2), NONE);
        due("18: others", x.writes(0, 5, -1), NONE);
        due("18: none such", x.writes(2, 5, 0), NONE);
        due("18: one that is empty", x.writes(1, 5, 0), 1);
        due("19: one that is empty", x.spread(1, 1), 100);
        due("19: none", x.spread(1, 0), 0);
        due("19: n NONE", x.spread(1, NONE), 0);
        due("19: n below NONE", x.spread(1, -2), NONE);
        due("19: no such VOLUME", x.spread(2, 1), NONE);
        due("19: no such VOLUME", x.spread(-1, NONE), NONE);
        for (int far : FAR) {
            due("18: none such", x.writes(far, 5, 0), NONE);
            due("18: none such", x.writes(0, far, 0), NONE);
            due("18: others", x.writes(0, 5, far), NONE);
            due("19: no such VOLUME", x.spread(far, 1), NONE);
            due("19: by how many n", x.spread(0, far), far < 0 ? NONE : 0);
        }
        // The second leaf, from 98 on, is full: of the KEYS that it would SPLIT for, 98 and 99 count, 100 and on do not.
        x = made("blocks 20 room 3;volume v;put v 96 1;put v 97 1;put v 98 1;put v 99 1;put v 100 1;");
        due("19: of all KEYS 0 .. 99: two BLOCKS", x.spread(0, 2), 98);
        due("19: of all KEYS 0 .. 99: three BLOCKS", x.spread(0, 3), 2);
        due("19: of all KEYS 0 .. 99: more", x.spread(0, 4), 0);
    }

    private static void losing() {
        CloneVolumes x = made("blocks 8 room 3;volume v;put v 5 5;");
        due("20: one KEY", x.lost(0), 1);
        due("20: one that is FREE", x.lost(1), 0);
        due("20: the last BLOCK", x.lost(7), 0);
        due("20: none such", x.lost(8), NONE);
        due("20: none such", x.lost(-1), NONE);
        due("21: the first BLOCK, one KEY", x.worst(0), 0);
        due("21: how many", x.worst(1), 1);
        x.copy(0);
        due("20: of each one", x.lost(0), 2);
        due("21: of each one", x.worst(1), 2);
        x.put(1, 6, 6);
        due("21: most KEYS", x.worst(0), 1);
        due("21: most KEYS", x.worst(1), 2);
        x.put(0, 6, 6);
        due("21: of like ones the first", x.worst(0), 1);
        for (int far : FAR) {
            due("20: none such", x.lost(far), NONE);
            due("21: others", x.worst(far), NONE);
            due("22: others", x.victim(far), NONE);
            due("23: others", x.room(far), NONE);
            due("24: none such", x.back(far), NONE);
        }
        x = made("blocks 8 room 3;picks 0-block;volume v;put v 5 5;volume w;put w 5 5;");
        due("21: of like ones the first", x.worst(0), 6);
        due("22: of like ones the first", x.victim(0), 0);
        due("22: how many", x.victim(1), 1);
        x.drop(0);
        due("22: one of a greater number", x.victim(0), 1);
        x.remove(1, 5);
        due("21: no KEYS", x.worst(0), NONE);
        due("21: no KEYS", x.worst(1), NONE);
        due("22: one that is empty", x.victim(0), 1);
        due("22: one that is empty", x.victim(1), 0);
        x.drop(1);
        due("22: without VOLUMES", x.victim(0), NONE);
        due("22: without VOLUMES", x.victim(1), NONE);
        x = made("blocks 8 room 3;volume a;clone b of a;clone c of a;clone d of a;clone e of a;clone f of a;clone g of a;clone h of a;put h 1 1;");
        due("22: the last of eight", x.victim(0), 7);
        due("22: the last of eight", x.victim(1), 1);
        x = made(TREE + "clone w of v;");
        due("22: none by one alone", x.victim(1), 0);
        due("22: none by one alone: the first", x.victim(0), 0);
    }

    private static void roomAndBack() {
        CloneVolumes x = new CloneVolumes();
        for (int what = -1; what < 4; what++) {
            due("23: without a store", x.room(what), NONE);
        }
        Check.store(x, TREE);
        x.put(0, 40, 5);
        due("23: now", x.room(0), 15);
        due("23: behind a CHECKPOINT", x.room(1), 17);
        due("23: behind a CRASH", x.room(2), 17);
        x.drop(0);
        due("23: now", x.room(0), 17);
        due("23: behind a CHECKPOINT", x.room(1), 20);
        due("23: behind a CRASH", x.room(2), 17);
        due("23: others", x.room(3), NONE);
        due("23: others", x.room(-1), NONE);
        due("24: not in both: DROPPED", x.back(0), NONE);
        x.undo();
        due("24: in both", x.back(0), 1);
        due("24: not in both: new", x.back(x.copy(0)), NONE);
        due("24: none such", x.back(-1), NONE);
        due("24: none such", x.back(8), NONE);
        x = made("blocks 8 room 3;volume v;volume w;put w 5 5;");
        due("24: one that is empty in both", x.back(0), 0);
        x.put(0, 1, 1);
        due("24: one that was empty", x.back(0), 1);
        x.remove(1, 5);
        due("24: one that is empty now", x.back(1), 1);
        due("24: ahead of a store", new CloneVolumes().back(0), NONE);
    }

    // ---- 25 to 27, part III: what is seen

    private static void seeing() {
        CloneVolumes x = made(TREE);
        for (int n = 1; n <= 14; n++) {
            int[] rows = new int[2 * n];
            due("25: 1 to 12 rows: " + n, Check.see(x, rows), n <= 12 ? n : NONE);
            due("25: all staying", x.has(7), Math.min(n, 12));
        }
        due("25: refused (1)", x.status(1), 2);
        Check.see(x, 10, 1);
        for (int bytes = 0; bytes <= 60; bytes++) {
            Check.lay(x, new byte[bytes]);
            int rows = bytes % 4 == 0 && bytes > 0 && bytes <= 48 ? bytes / 4 : NONE;
            due("25: rows of four bytes: " + bytes, x.see(), rows);
            due("25: the tape goes: " + bytes, x.end(1), false);
        }
        int[][] edges = {{0, 0, 1}, {999, 0, 1}, {1000, 0, 0}, {0, 999, 1}, {0, 1000, 1}, {0, 1001, 0}, {999, 1000, 1}, {65535, 0, 0}, {0, 65535, 0},
            {256, 256, 1}, {1256, 0, 0}};
        for (int[] edge : edges) {
            String words = "25: KEY " + edge[0] + ", VALUE " + edge[1];
            due(words, Check.see(x, edge[0], edge[1]), edge[2] == 1 ? 1 : NONE);
            due(words + " in the second row", Check.see(x, 1, 1, edge[0], edge[1]), edge[2] == 1 ? 2 : NONE);
            due(words + " in the first row", Check.see(x, edge[0], edge[1], 1, 1), edge[2] == 1 ? 2 : NONE);
        }
        Check.see(x, 10, 1);
        due("25: a refused one", Check.see(x, 20, 9, 1000, 1), NONE);
        due("25: all staying: FITS", x.fits(NONE), 1);
        Check.see(x, 258, 772);
        x.put(0, 258, 772);
        due("25: the higher first", x.fits(NONE), 1);
    }

    private static void fitting() {
        CloneVolumes x = new CloneVolumes();
        due("26: ahead of a store", x.fits(NONE), 0);
        due("26: ahead of a store", x.fits(0), NONE);
        Check.store(x, "blocks 20 room 3;volume a;volume b;volume c;put a 1 1;put b 1 0;");
        due("26: all VOLUMES, if nothing is", x.fits(NONE), 3);
        for (int k = 0; k < 3; k++) {
            due("26: all VOLUMES, if nothing is", x.fits(k), k);
        }
        due("26: none such", x.fits(3), NONE);
        for (int k : FAR) {
            due("26: none such: " + k, x.fits(k), NONE);
        }
        Check.see(x, 1, 1000);
        due("III: 1000: no such KEY", x.fits(NONE), 1);
        due("III: 1000: no such KEY", x.fits(0), 2);
        Check.see(x, 1, 0);
        due("III: VALUE 0 is one", x.fits(NONE), 1);
        due("III: VALUE 0 is one", x.fits(0), 1);
        x.drop(1);
        due("26: of those that are", x.fits(NONE), 0);
        due("26: of those that are", x.fits(0), NONE);
        x.undo();
        due("26: of those that are", x.fits(0), 1);
        Check.see(x, 1, 1, 2, 1000, 3, 1000);
        due("III: all rows", x.fits(0), 0);
        Check.see(x, 2, 1000, 3, 1000, 1, 5);
        due("III: all rows", x.fits(NONE), 0);
    }

    private static void telling() {
        String eight = "blocks 20 room 3;volume a;put a 5 1;clone b of a;clone c of a;clone d of a;clone e of a;clone f of a;clone g of a;clone h of a;";
        CloneVolumes x = made(eight);
        due("27: all eight alike: of like ones the first", x.tells(0), 0);
        due("27: all eight alike", x.tells(1), 8);
        x.put(7, 99, 1);
        due("III: the KEY (0 .. 99)", x.tells(0), 99);
        due("III: the KEY (0 .. 99)", x.tells(1), 7);
        x.undo();
        x.put(7, 100, 1);
        due("III: not 100", x.tells(0), 0);
        due("III: not 100", x.tells(1), 8);
        x.put(3, 0, 1);
        due("III: KEY 0", x.tells(0), 0);
        due("III: KEY 0", x.tells(1), 7);
        x.put(3, 5, 0);
        x.put(4, 5, 2);
        due("III: by whose VALUE, or none, the most FITS left are fewest", x.tells(0), 5);
        due("III: by whose VALUE, or none, the most FITS left are fewest", x.tells(1), 6);
        x.put(0, 6, 1);
        x.put(1, 6, 1);
        due("III: of like ones the first", x.tells(0), 5);
        x.put(2, 6, 1);
        due("III: five read none, three read 1", x.tells(0), 6);
        due("III: five read none, three read 1", x.tells(1), 5);
        x.remove(0, 5);
        x.remove(1, 5);
        due("III: by 5 one reads 0, one 2, two none, four 1", x.tells(0), 5);
        due("III: by 5 one reads 0, one 2, two none, four 1", x.tells(1), 4);
        for (int what : FAR) {
            due("27: others: " + what, x.tells(what), NONE);
        }
        due("27: others", x.tells(2), NONE);
        due("27: others", x.tells(-1), NONE);
        Check.see(x, 5, 999);
        due("27: without FITS", x.tells(0), NONE);
        due("27: without FITS", x.tells(1), NONE);
        due("27: without VOLUMES", made("blocks 8 room 3;").tells(0), NONE);
        due("27: ahead of a store", new CloneVolumes().tells(1), NONE);
    }

    // ---- 28 to 36: acts

    private static void putting() {
        CloneVolumes x = made(LEAF);
        int refused = 0;
        for (int far : new int[] {-1, 1000, Integer.MAX_VALUE, Integer.MIN_VALUE}) {
            due("28: KEY can't be", x.put(0, far, 1), NONE);
            due("28: VALUE can't be", x.put(0, 1, far), NONE);
            due("28: none such", x.put(far, 1, 1), NONE);
            due("29: not there", x.remove(0, far), NONE);
            due("29: none such", x.remove(far, 10), NONE);
            due("30: none such", x.copy(far), NONE);
            due("31: none such", x.drop(far), NONE);
            refused += 7;
            due("41: refused (2)", x.status(2), refused);
        }
        due("28: none such", x.put(2, 1, 1), NONE);
        due("28: none such", x.put(8, 1, 1), NONE);
        due("29: of one that is empty", x.remove(1, 10), NONE);
        due("29: not there", x.remove(0, 11), NONE);
        due("29: none such", x.remove(2, 10), NONE);
        due("30: none such", x.copy(2), NONE);
        due("31: none such", x.drop(2), NONE);
        due("41: refused (2)", x.status(2), refused + 7);
        due("28: nothing is KEPT", x.has(6), 0);
        due("28: the least", x.put(0, 0, 0), 1);
        due("28: the greatest", x.put(0, 999, 999), 1);
        due("29: the least", x.remove(0, 0), 1);
        due("29: the greatest", x.remove(0, 999), 1);
        CloneVolumes y = new CloneVolumes();
        due("28: ahead of a store", y.put(0, 1, 1) + y.remove(0, 1) + y.copy(0) + y.drop(0), 4 * NONE);
        due("28: ahead of a store", y.status(2), 4);
        x = made("blocks 8 room 3;volume v;put v 5 5;");
        x.put(0, 5, 6);
        x.remove(0, 5);
        due("29: its BLOCK is not in use", Check.ask(x, "total count"), 0);
        for (int b = 0; b < 8; b++) {
            due("29: its BLOCK is not in use: " + b, x.block(b, 0), 0);
        }
        x.put(0, 7, 7);
        due("29: its BLOCK is TAKEN anew", x.volume(0, 0), 1);
    }

    private static void copying() {
        CloneVolumes x = made(LEAF);
        for (int v = 2; v < 8; v++) {
            due("30: the least that is free", x.copy(0), v);
        }
        due("30: when there are 8", x.copy(0), NONE);
        due("30: when there are 8", x.status(2), 1);
        due("30: when there are 8", x.has(1), 8);
        for (int v = 0; v < 8; v++) {
            due("31: DROPPED", x.drop(v), 0);
            due("30: the least that is free: " + v, x.copy((v + 1) % 8), v);
        }
        x.drop(6);
        x.drop(0);
        due("30: the least that is free", x.copy(1), 0);
        due("30: the next that is free", x.copy(1), 6);
        x = made("blocks 8 room 3;volume v;put v 5 5;");
        x.put(0, 6, 6);
        due("31: how many BLOCKS are in use no more", x.drop(0), 1);
        due("31: the last VOLUME", x.has(1), 0);
        due("30: none is there to be COPIED", x.copy(0), NONE);
    }

    private static void keeping() {
        CloneVolumes x = new CloneVolumes();
        due("32: without a store", x.checkpoint(), NONE);
        due("33: without a store", x.crash(), NONE);
        due("34: without a store", x.chance(1), NONE);
        due("32: refused (3)", x.status(3), 3);
        Check.store(x, "blocks 8 room 3;volume v;");
        due("32: none is HELD", x.checkpoint(), 0);
        due("33: none is FRESH", x.crash(), 0);
        x.put(0, 5, 5);
        due("33: the first BLOCK alone", x.crash(), 1);
        due("33: in use no more", x.has(2), 0);
        x.put(0, 5, 5);
        x.checkpoint();
        x.put(0, 5, 6);
        due("32: HELD no more: the first BLOCK alone", x.checkpoint(), 1);
        due("33: nothing since", x.crash(), 0);
        due("33: nothing since", x.read(0, 5), 6);
        x = made("blocks 8 room 3;volume a;clone b of a;clone c of a;clone d of a;clone e of a;clone f of a;clone g of a;clone h of a;put a 1 1;put b 1 1;put c 1 1;put d 1 1;put e 1 1;put f 1 1;put g 1 1;put h 1 1;");
        for (int v = 0; v < 8; v++) {
            x.drop(v);
        }
        due("32: all of eight", x.checkpoint(), 8);
        due("33: no VOLUMES", x.crash(), 0);
        due("33: no VOLUMES", x.has(1), 0);
    }

    private static void chances() {
        CloneVolumes x = made(LEAF);
        for (int n : new int[] {0, -1, 41, 42, 1000, Integer.MAX_VALUE, Integer.MIN_VALUE}) {
            due("34: n can't be: " + n, x.chance(n), NONE);
        }
        due("34: refused (3)", x.status(3), 7);
        due("34: a refused one is not KEPT", x.has(6), 0);
        CloneVolumes y = made(LEAF);
        due("34: a refused one draws nothing", x.chance(1), y.chance(1));
        due("34: a refused one draws nothing", same(x, y), true);
        x.chance(40);
        for (int i = 0; i < 40; i++) {
            y.chance(1);
        }
        x.checkpoint();
        y.checkpoint();
        byte[] one = Check.image(x);
        byte[] other = Check.image(y);
        Arrays.fill(one, 0, 3, (byte) 0);
        Arrays.fill(other, 0, 3, (byte) 0);
        due("34: forty at once are as forty times one, but for the COST", Arrays.equals(Check.sealed(one), Check.sealed(other)), true);
        due("36: below 0", x.seed(-1), false);
        due("36: below 0", x.seed(Integer.MIN_VALUE), false);
        due("36: refused (5)", x.status(5), 2);
        due("36: not below 0", x.seed(0), true);
        due("36: not below 0", x.seed(Integer.MAX_VALUE), true);
        due("36: refused (5)", x.status(5), 2);
    }

    /** What is only asked or refused between two ACTS does not touch what can be undone. */
    private static void undoing() {
        StringBuilder text = new StringBuilder("blocks 8 room 3;volume v;");
        for (char c = 'a'; c <= 'g'; c++) {
            text.append("volume ").append(c).append(";put ").append(c).append(" 1 1;");
        }
        CloneVolumes x = made(text.toString());
        byte[][] before = new byte[30][];
        for (int i = 0; i < 30; i++) {
            before[i] = Check.image(x);
            due("35: an ACT", x.put(0, 5, i), 1);
            x.writes(0, 6, 0);
            x.spread(0, 1);
            due("28: can't be TAKEN", x.put(1, 5, 5), NONE);
            due("29: can't be TAKEN", x.remove(2, 1), NONE);
            due("29: not there", x.remove(0, 999), NONE);
            due("30: when there are 8", x.copy(0), NONE);
            Check.on(x, new byte[5]);
        }
        for (int i = 29; i >= 10; i--) {
            due("35: undone", x.undo(), true);
            due("35: all is as it was ahead of it: " + i, Arrays.equals(before[i], Check.image(x)), true);
            x.writes(0, 6, 0);
            x.put(9, 9, 9);
        }
        due("35: none can be", x.undo(), false);
        due("35: refused (4)", x.status(4), 1);
        due("35: none can be, so all stays", Arrays.equals(before[10], Check.image(x)), true);
    }

    // ---- 37, part IV: questions

    private static void asking() {
        CloneVolumes x = new CloneVolumes();
        due("37: without a store", Check.ask(x, "often all"), NOTHING);
        due("37: without a store, with a FAULT", Check.ask(x, "?"), NOTHING);
        due("37: doing nothing else", x.fault(0), 0);
        due("37: doing nothing else", x.status(1), 0);
        Check.store(x, "blocks 48 room 3;volume v;put v 7 1;put v 8 1;put v 9 1;put v 10 1;");
        x.put(0, 7, 2);
        // In use: 2 (9, 10), 3 over 4 (7, 8) and 2; HELD: 0 (7, 8), 1 over it.
        String[] texts = {"first count>0", "last count>0", "first saved>0 and count=0", "last saved>0 and count=0", "first number=0", "last number=47",
            "first number=48", "last number<0", "often number<0", "often number<48", "first not all", "first all", "last all",
            "total refs 2", "total refs 0", "total refs 47", "total refs 48", "total refs 49", "total refs 9999", "total refs(0-1)",
            "total key 2", "total key 4", "total key 3", "total key 0", "total key 1", "total key 47", "total key 48", "total key(0-1)",
            "first level=1", "last level=1", "often entries=2", "often entries=0", "total fresh", "total saved", "most key number", "least refs number",
            "most 5", "least 5", "total 5", "least 0-number", "most number-47", "total 1000*1000", "total 0-1000*1000", "most refs refs 2", "most key refs 2 + 1",
            "first refs number = 1 and key number = 9", "total min(number,1)", "total max(number,46)-46"};
        long[] want = {2, 4, 0, 1, 0, 47,
            NONE, NONE, 0, 48, NONE, 0, 47,
            48, 0, 0, 0, 0, 0, 0,
            48 * 9, 48 * 7, 48 * 7, 0, 0, 0, 0, 0,
            1, 3, 5, 43, 2, 3, 9, 0,
            5, 5, 240, -47, 0, 48000000, -48000000, 0, 1,
            2, 47, 1};
        for (int i = 0; i < texts.length; i++) {
            due("37: " + texts[i], Check.ask(x, texts[i]), want[i]);
            due("37: no FAULT: " + texts[i], x.fault(0), 0);
        }
        for (String bad : new String[] {"abcde 1", "leastx 1", "leas 1", "lea", "x", "most", "least", "first 5", "total all", "total 1 1"}) {
            due("37: NOTHING with a FAULT: " + bad, Check.ask(x, bad), NOTHING);
            due("37: NOTHING with a FAULT: " + bad, x.fault(0), 1);
        }
        String[] tests = {"not 1<2", "1<2 and 1=1", "1<2 and 2>1", "1<2 and 1<3", "not 2>1", "not 1=1", "not 2<1", "2<1 or 1<2", "1<2 or 1<2", "not not 1<2", "not[1<2 or 1<2]"};
        long[] hold = {0, 48, 48, 48, 0, 0, 48, 48, 48, 48, 0};
        for (int i = 0; i < tests.length; i++) {
            due("IV: often " + tests[i], Check.ask(x, "often " + tests[i]), hold[i]);
        }
        due("37: a question refuses nothing and changes nothing", x.status(1) + x.has(6), 1);
    }

    private static void manyQuestions() {
        CloneVolumes x = made("blocks 8 room 3;volume v;splits not[entries<1 or level>9] and entries>1;");
        for (int i = 0; i < 160; i++) {
            due("37: question " + i, Check.ask(x, "most 1+2+3+4+5+6+7+" + i), 28 + i);
        }
        x.put(0, 1, 1);
        x.put(0, 2, 2);
        due("37: splits stay as they were told", x.put(0, 3, 3), 3);
    }

    // ---- 38 to 40, part IV: images

    private static void images() {
        CloneVolumes x = new CloneVolumes();
        due("39: ahead of any", x.octet(0), NONE);
        due("38: ahead of a store 20", x.image(), 20);
        for (int k = 0; k < 19; k++) {
            due("38: ahead of a store: byte " + k, x.octet(k), k < 3 ? 0 : 255);
        }
        due("39: the last", x.octet(19), 25);
        due("39: none such", x.octet(20), NONE);
        due("39: none such", x.octet(-1), NONE);
        for (int k : FAR) {
            due("39: none such: " + k, x.octet(k), NONE);
        }
        Check.store(x, "blocks 48 room 3;volume v;");
        due("39: of the latest image()", x.octet(20), NONE);
        due("38: no BLOCK in use", x.image(), 20 + 2 * 48);
        due("38: 254: empty", x.octet(3), 254);
        due("38: 254: empty", x.octet(4), 254);
        due("38: 255: none such", x.octet(5), 255);
        x.drop(0);
        x.image();
        due("38: its ROOT now: none such", x.octet(3), 255);
        due("38: right behind that its ROOT in the CHECKPOINT", x.octet(4), 254);
        due("39: of the latest image()", x.octet(20 + 2 * 48), NONE);
        Check.store(x, "blocks 8 room 3;");
        due("38: fewer BLOCKS", x.image(), 36);
        due("39: fewer bytes", x.octet(36), NONE);
        due("39: fewer bytes", x.octet(35) >= 0, true);
    }

    /** Bytes, and behind them the last one that is due. */
    private static byte[] image(int... bytes) {
        byte[] all = new byte[bytes.length + 1];
        for (int i = 0; i < bytes.length; i++) {
            all[i] = (byte) bytes[i];
        }
        return Check.sealed(all);
    }

    /** COST 0, VOLUME 0 with a ROOT now and one in the CHECKPOINT, then the BLOCKS. */
    private static byte[] rooted(int now, int then, int... blocks) {
        int[] all = new int[19 + blocks.length];
        Arrays.fill(all, 3, 19, 255);
        all[3] = now;
        all[4] = then;
        System.arraycopy(blocks, 0, all, 19, blocks.length);
        return image(all);
    }

    private static void loads(String words, byte[] bytes, boolean good) {
        CloneVolumes x = made("blocks 8 room 3;volume v;put v 7 7;");
        x.put(0, 7, 8);
        byte[] before = Check.image(x);
        due("40: " + words, Check.on(x, bytes), good);
        due("40: " + words + ": refused (5)", x.status(5), good ? 0 : 1);
        due("40: " + words + ": the tape goes", x.end(1), false);
        due("40: " + words + ": as it tells, or all staying", Arrays.equals(good ? bytes : before, Check.image(x)), true);
        due("40: " + words + ": KEPT", x.has(6), good ? 0 : 1);
        due("40: " + words + ": can be undone", x.has(8), good ? 0 : 1);
        due("40: " + words + ": undone", x.undo(), !good);
    }

    private static void imagesOn() {
        loads("no VOLUMES", rooted(255, 255, new int[16]), true);
        loads("one that is empty", rooted(254, 255, new int[16]), true);
        loads("one that is empty in the CHECKPOINT", rooted(255, 254, new int[16]), true);
        loads("one KEY", rooted(0, 255, 1, 0, 0, 1, 0, 5, 0, 6, 0, 0, 0, 0, 0, 0, 0, 0, 0, 0, 0, 0, 0, 0), true);
        loads("one KEY, HELD", rooted(255, 0, 0, 1, 0, 1, 0, 5, 0, 6, 0, 0, 0, 0, 0, 0, 0, 0, 0, 0, 0, 0, 0, 0), true);
        loads("one KEY, in both", rooted(0, 0, 1, 1, 0, 1, 0, 5, 0, 6, 0, 0, 0, 0, 0, 0, 0, 0, 0, 0, 0, 0, 0, 0), true);
        loads("the ROOT is the first BLOCK", rooted(0, 255, 1, 0, 1, 2, 0, 1, 0, 1, 0, 3, 0, 2, 1, 0, 0, 1, 0, 2, 0, 0,
            1, 0, 0, 1, 0, 3, 0, 0, 0, 0, 0, 0, 0, 0, 0, 0, 0, 0), true);
        loads("a ROOT of one ENTRY", rooted(0, 255, 1, 0, 1, 1, 0, 1, 0, 1, 1, 0, 0, 1, 0, 2, 0, 0,
            0, 0, 0, 0, 0, 0, 0, 0, 0, 0, 0, 0), true);
        loads("KEYS, VALUES 999 at most", rooted(0, 255, 1, 0, 0, 1, 3, 231, 3, 231, 0, 0, 0, 0, 0, 0, 0, 0, 0, 0, 0, 0, 0, 0), true);
        loads("the last BLOCK", rooted(7, 255, 0, 0, 0, 0, 0, 0, 0, 0, 0, 0, 0, 0, 0, 0, 1, 0, 0, 1, 0, 5, 0, 6), true);
        loads("room ENTRIES", rooted(7, 255, 0, 0, 0, 0, 0, 0, 0, 0, 0, 0, 0, 0, 0, 0, 1, 0, 0, 3, 0, 5, 0, 6, 0, 6, 0, 6, 0, 7, 0, 6), true);
        CloneVolumes x = made("blocks 8 room 3;volume v;put v 7 7;");
        Check.see(x, 1, 1);
        x.seed(9);
        Check.on(x, rooted(254, 255, new int[16]));
        due("40: SEEN stays", x.has(7), 1);
        due("40: then ACTS go on", x.put(0, 5, 5), 1);
        due("40: then ACTS go on", x.has(8), 1);
        due("40: then ACTS can be undone", x.undo(), true);
        due("40: no further than it", x.undo(), false);
        due("40: its CHECKPOINT, too", x.crash() + x.has(1), 0);
    }

    private static void imagesRefused() {
        int[] free = new int[14];
        loads("KEYS 999 at most", rooted(0, 255, 1, 0, 0, 1, 3, 232, 0, 6, 0, 0, 0, 0, 0, 0, 0, 0, 0, 0, 0, 0, 0, 0), false);
        loads("VALUES 999 at most", rooted(0, 255, 1, 0, 0, 1, 0, 5, 3, 232, 0, 0, 0, 0, 0, 0, 0, 0, 0, 0, 0, 0, 0, 0), false);
        loads("a ROOT that there is not", rooted(8, 255, new int[16]), false);
        loads("a ROOT that there is not", rooted(253, 255, new int[16]), false);
        loads("a ROOT that there is not, in the CHECKPOINT", rooted(255, 8, new int[16]), false);
        loads("a ROOT that is not in use", rooted(0, 255, new int[16]), false);
        loads("a ROOT that is not in use in the CHECKPOINT", rooted(0, 0, 1, 0, 0, 1, 0, 5, 0, 6, 0, 0, 0, 0, 0, 0, 0, 0, 0, 0, 0, 0, 0, 0), false);
        loads("a COUNT that no ROOT makes", rooted(255, 255, 1, 0, 0, 1, 0, 5, 0, 6, 0, 0, 0, 0, 0, 0, 0, 0, 0, 0, 0, 0, 0, 0), false);
        loads("a COUNT in the CHECKPOINT that no ROOT makes", rooted(0, 255, 1, 1, 0, 1, 0, 5, 0, 6, 0, 0, 0, 0, 0, 0, 0, 0, 0, 0, 0, 0, 0, 0), false);
        loads("a COUNT too great", rooted(0, 255, 2, 0, 0, 1, 0, 5, 0, 6, 0, 0, 0, 0, 0, 0, 0, 0, 0, 0, 0, 0, 0, 0), false);
        loads("no ENTRIES", rooted(0, 255, 1, 0, 0, 0, 0, 0, 0, 0, 0, 0, 0, 0, 0, 0, 0, 0, 0, 0), false);
        loads("more than room ENTRIES", rooted(7, 255, 0, 0, 0, 0, 0, 0, 0, 0, 0, 0, 0, 0, 0, 0, 1, 0, 0, 4, 0, 5, 0, 6, 0, 6, 0, 6, 0, 7, 0, 6, 0, 8, 0, 6), false);
        loads("KEYS rising: like ones", rooted(0, 255, 1, 0, 0, 2, 0, 5, 0, 6, 0, 5, 0, 6, 0, 0, 0, 0, 0, 0, 0, 0, 0, 0, 0, 0, 0, 0), false);
        loads("KEYS rising: falling", rooted(0, 255, 1, 0, 0, 2, 0, 6, 0, 6, 0, 5, 0, 6, 0, 0, 0, 0, 0, 0, 0, 0, 0, 0, 0, 0, 0, 0), false);
        loads("KEYS rising: the last", rooted(0, 255, 1, 0, 0, 3, 0, 4, 0, 6, 0, 5, 0, 6, 0, 5, 0, 6, 0, 0, 0, 0, 0, 0, 0, 0, 0, 0, 0, 0, 0, 0), false);
        for (int level : new int[] {0, 1, 2, 7, 8, 47, 48, 49, 128, 255}) {
            loads("each BLOCK of an ENTRY a LEVEL below: one of " + level + " over one of 0", rooted(0, 255, 1, 0, level, 1, 0, 1, 0, 1, 1, 0, 0, 1, 0, 2, 0, 0,
                0, 0, 0, 0, 0, 0, 0, 0, 0, 0, 0, 0), level == 1);
            loads("a LEVEL that can't be: " + level, rooted(0, 255, 1, 0, level, 1, 0, 1, 0, 1, 0, 0, 0, 0, 0, 0, 0, 0, 0, 0, 0, 0, 0, 0), level == 0);
        }
        loads("BLOCKS that there are", rooted(0, 255, 1, 0, 1, 1, 0, 1, 0, 8, 1, 0, 0, 1, 0, 2, 0, 0, 0, 0, 0, 0, 0, 0, 0, 0, 0, 0, 0, 0), false);
        loads("BLOCKS that there are: itself", rooted(0, 255, 2, 0, 1, 1, 0, 1, 0, 0, 0, 0, 0, 0, 0, 0, 0, 0, 0, 0, 0, 0, 0, 0), false);
        loads("one not in use in an ENTRY", rooted(0, 255, 1, 0, 1, 1, 0, 1, 0, 1, 0, 0, 0, 0, 0, 0, 0, 0, 0, 0, 0, 0, 0, 0), false);
        loads("one HELD in an ENTRY of one in use", rooted(0, 1, 1, 0, 1, 1, 0, 1, 0, 1, 0, 1, 0, 1, 0, 2, 0, 0, 0, 0, 0, 0, 0, 0, 0, 0, 0, 0, 0, 0), false);
        loads("one too few BLOCKS", rooted(255, 255, free), false);
        loads("one too many BLOCKS", rooted(255, 255, new int[18]), false);
        loads("a byte too few", rooted(255, 255, new int[15]), false);
        loads("a byte too many", rooted(255, 255, new int[17]), false);
        for (int length = 0; length < 30; length++) {
            loads("too short: " + length, length == 0 ? new byte[0] : Check.sealed(new byte[length]), false);
        }
        byte[] spoilt = rooted(254, 255, new int[16]);
        for (int add = 1; add < 256; add++) {
            byte[] other = spoilt.clone();
            other[other.length - 1] += (byte) add;
            loads("last a byte, by all ahead: another one", other, false);
        }
        byte[] none = Check.image(new CloneVolumes());
        CloneVolumes x = new CloneVolumes();
        due("40: without a store", Check.on(x, none), false);
        due("40: without a store", x.status(5), 1);
        due("40: without a store: the tape goes", x.end(1), false);
        due("40: of another STORE: ahead of one", Check.on(made("blocks 8 room 3;"), none), false);
    }

    /** LEVEL 2 over two of LEVEL 1 over two leaves each: which KEYS at each ENTRY are fine. */
    private static void tallImages() {
        // 0: over 1, 2; 1: over 3 (10), 4 (20, 21); 2: over 5 (30), 6 (40).
        int[] good = {1, 0, 2, 2, 0, 9, 0, 1, 0, 30, 0, 2, 1, 0, 1, 2, 0, 9, 0, 3, 0, 20, 0, 4, 1, 0, 1, 2, 0, 9, 0, 5, 0, 40, 0, 6,
            1, 0, 0, 1, 0, 10, 0, 0, 1, 0, 0, 2, 0, 20, 0, 0, 0, 21, 0, 0, 1, 0, 0, 1, 0, 30, 0, 0, 1, 0, 0, 1, 0, 40, 0, 0, 0, 0};
        loads("a tall one", rooted(0, 255, good), true);
        for (int key = 0; key < 60; key++) {
            int[] other = good.clone();
            other[9] = key;
            loads("below the next ENTRY's, no less than its own, two LEVELS up: " + key, rooted(0, 255, other), key >= 22 && key <= 30);
            other = good.clone();
            other[21] = key;
            loads("below the next ENTRY's, no less than its own: " + key, rooted(0, 255, other), key >= 11 && key <= 20);
            other = good.clone();
            other[5] = key;
            loads("the KEY of the first one bounds nothing: " + key, rooted(0, 255, other), true);
            other = good.clone();
            other[29] = key;
            loads("the KEY of the first one bounds nothing, in the second: " + key, rooted(0, 255, other), true);
        }
        CloneVolumes x = made("blocks 8 room 3;volume v;");
        Check.on(x, rooted(0, 255, good));
        due("40: as it tells: LEVELS", x.volume(0, 2), 3);
        due("40: as it tells: KEYS", x.volume(0, 1), 5);
        due("40: as it tells: the way", x.path(0, 29, 2), 4);
        due("40: as it tells: the way", x.path(0, 30, 2), 5);
        due("40: as it tells: DROPPED", x.drop(0), 7);
    }

    // ---- 41

    private static void refusals() {
        CloneVolumes x = new CloneVolumes();
        for (int what : FAR) {
            due("41: NONE for others: " + what, x.status(what), NONE);
        }
        due("41: NONE for others", x.status(-1), NONE);
        due("41: NONE for others", x.status(6), NONE);
        int[] want = new int[6];
        for (int turn = 0; turn < 12; turn++) {
            switch (turn) {
                case 0: x.end(1); want[0]++; break;
                case 1: x.store(); want[1]++; break;
                case 2: x.see(); want[1]++; break;
                case 3: x.put(0, 1, 1); want[2]++; break;
                case 4: x.remove(0, 1); want[2]++; break;
                case 5: x.copy(0); want[2]++; break;
                case 6: x.drop(0); want[2]++; break;
                case 7: x.checkpoint(); x.crash(); want[3] += 2; break;
                case 8: x.chance(0); want[3]++; break;
                case 9: x.undo(); want[4]++; break;
                case 10: x.seed(-1); want[5]++; break;
                default: x.on(); want[5]++;
            }
            for (int what = 0; what < 6; what++) {
                due("41: how many were refused, turn " + turn + ": " + what, x.status(what), want[what]);
            }
        }
        Check.store(x, LEAF);
        Check.ask(x, "?");
        x.read(9, 9);
        x.letter(9, 9);
        x.octet(-1);
        x.writes(0, 1000, 0);
        x.spread(9, 9);
        x.undo();
        x.put(0, 1, 1);
        x.undo();
        want[4]++;
        for (int what = 0; what < 6; what++) {
            due("41: those asked are not refused; a STORE leaves it: " + what, x.status(what), want[what]);
        }
    }
}
