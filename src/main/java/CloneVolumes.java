/**
 * Copy-on-write tree volumes: a store of blocks told as a text, volumes whose keys lie in trees of blocks,
 * of which one is copied from another by its root alone. The words in capitals are those of the document.
 */
public final class CloneVolumes {

    public static final int NONE = -1;
    public static final long NOTHING = -1000000000000000L;

    private static final int MOST_TAPE = 1600;
    private static final int MOST_STATEMENTS = 60;
    private static final int MOST_BLOCKS = 48;
    private static final int MOST_ENTRIES = 6;
    private static final int MOST_SLOTS = MOST_BLOCKS * MOST_ENTRIES;
    private static final int MOST_VOLUMES = 8;
    private static final int MOST_LETTERS = 6;
    private static final int MOST_DIGITS = 4;
    private static final int MOST_OPEN = 6;
    private static final int MOST_KEY = 999;
    private static final int MOST_COST = 999999;
    private static final int MOST_ROWS = 12;
    private static final int MOST_TOLD = 40;
    private static final int MOST_UNDONE = 20;
    private static final int MOST_CHANCES = 40;
    private static final int SPREAD_KEYS = 100;
    private static final int LIMIT = 1000000;

    /** What `from` tells in picks when no BLOCK is copied or split. */
    private static final int NO_SOURCE = 48;
    /** How a row tells that there is no such KEY. */
    private static final int NO_KEY = 1000;
    /** A ROOT of a VOLUME without BLOCKS, and of a VOLUME that is not there. */
    private static final int EMPTY = -1;
    private static final int ABSENT = -2;

    private static final int PUT = 0;
    private static final int REMOVE = 1;
    private static final int COPY = 2;
    private static final int DROP = 3;
    private static final int CHECKPOINT = 4;
    private static final int CRASH = 5;
    private static final int BY_SEED = 6;
    private static final int NO_VOLUME = 255;

    private static final int TAPE_REFUSED = 0;
    private static final int TEXT_REFUSED = 1;
    private static final int CHANGE_REFUSED = 2;
    private static final int WHOLE_REFUSED = 3;
    private static final int UNDO_REFUSED = 4;
    private static final int LOAD_REFUSED = 5;
    private static final int REFUSALS = 6;

    /** First the OWN WORDS, then those that begin a QUESTION; the W_ numbers are their places here. */
    private static final String WORDS = "blocks room volume clone of put remove picks splits costs churn block from level entries number count fresh saved refs key or and not all min max first last often total most least";
    private static final int W_BLOCKS = 0;
    private static final int W_ROOM = 1;
    private static final int W_VOLUME = 2;
    private static final int W_CLONE = 3;
    private static final int W_OF = 4;
    private static final int W_PUT = 5;
    private static final int W_REMOVE = 6;
    private static final int W_PICKS = 7;
    private static final int W_SPLITS = 8;
    private static final int W_COSTS = 9;
    private static final int W_CHURN = 10;
    private static final int W_BLOCK = 11;
    private static final int W_FROM = 12;
    private static final int W_LEVEL = 13;
    private static final int W_ENTRIES = 14;
    private static final int W_NUMBER = 15;
    private static final int W_COUNT = 16;
    private static final int W_FRESH = 17;
    private static final int W_SAVED = 18;
    private static final int W_REFS = 19;
    private static final int W_KEY = 20;
    private static final int W_OR = 21;
    private static final int W_AND = 22;
    private static final int W_NOT = 23;
    private static final int W_ALL = 24;
    private static final int W_MIN = 25;
    private static final int W_MAX = 26;
    private static final int OWN_WORDS = 27;
    private static final int W_FIRST = 27;
    private static final int W_LAST = 28;
    private static final int W_OFTEN = 29;
    private static final int W_TOTAL = 30;
    private static final int W_MOST = 31;
    private static final int W_LEAST = 32;

    /** Where a formula stands: the first three are also its place in a plan. */
    private static final int IN_PICKS = 0;
    private static final int IN_SPLITS = 1;
    private static final int IN_COSTS = 2;
    private static final int IN_QUESTION = 3;

    /** A formula's steps: a number from 0 on is itself, a fact is FACT less its word, the others act on the stack. */
    private static final int ADD = -1;
    private static final int SUBTRACT = -2;
    private static final int MULTIPLY = -3;
    private static final int DIVIDE = -4;
    private static final int LESSER = -5;
    private static final int GREATER = -6;
    private static final int BELOW = -7;
    private static final int ABOVE = -8;
    private static final int SAME = -9;
    private static final int BOTH = -10;
    private static final int EITHER = -11;
    private static final int NEGATE = -12;
    private static final int REFS_OF = -13;
    private static final int KEY_OF = -14;
    private static final int FACT = -100;

    private final Tape tape = new Tape();
    private final Reader reader = new Reader(tape);
    private final History history = new History();
    private final Sight sight = new Sight();
    private final Picture picture = new Picture();
    private final Walk walk = new Walk();
    private final Walk otherWalk = new Walk();
    private final long[] trees = new long[MOST_VOLUMES];
    private final int[] refused = new int[REFUSALS];
    /** The plan of THE STORE, and one to read the next text into, as a text with a FAULT leaves all as it is. */
    private Plan plan = new Plan();
    private Plan spare = new Plan();
    private final Forest forest = new Forest(plan);
    private boolean told;

    public CloneVolumes() {
    }

    public int feed(int a, int b, int c, int d, int e) {
        if (!tape.hasRoom()) {
            return refuse(TAPE_REFUSED);
        }
        tape.append(a);
        tape.append(b);
        tape.append(c);
        tape.append(d);
        tape.append(e);
        return tape.length;
    }

    public boolean end(int n) {
        if (n < 0 || n > tape.length) {
            refuse(TAPE_REFUSED);
            return false;
        }
        tape.length = n;
        return true;
    }

    public int store() {
        boolean good = reader.readStore(spare);
        tape.length = 0;
        if (!good) {
            return refuse(TEXT_REFUSED);
        }
        Plan old = plan;
        plan = spare;
        spare = old;
        forest.build(plan);
        history.clear();
        sight.rows = 0;
        told = true;
        return plan.statements;
    }

    public int fault(int what) {
        if (what == 0) {
            return reader.fault;
        }
        return what == 1 && reader.fault != 0 ? reader.place : NONE;
    }

    public int has(int what) {
        State now = forest.now;
        switch (what) {
            case 0: return now.blocks;
            case 1: return now.volumes();
            case 2: return now.used();
            case 3: return now.held();
            case 4: return now.blocks - now.used() - now.held();
            case 5: return now.spent;
            case 6: return history.toldRows();
            case 7: return sight.rows;
            case 8: return history.depth;
            case 9: return told ? plan.entriesMost : 0;
            default: return NONE;
        }
    }

    public int letter(int volume, int k) {
        if (!told || volume < 0 || volume >= plan.volumes || k < 0 || k >= MOST_LETTERS) {
            return NONE;
        }
        return plan.names[volume * MOST_LETTERS + k];
    }

    public int volume(int volume, int what) {
        State now = forest.now;
        if (!now.isVolume(volume)) {
            return NONE;
        }
        int root = now.roots[volume];
        switch (what) {
            case 0: return root;
            case 1: return walk.gather(now, root);
            case 2: return root == EMPTY ? 0 : now.level[root] + 1;
            case 3: return Long.bitCount(walk.tree(now, root));
            case 4: return forest.freedWith(root);
            default: return NONE;
        }
    }

    public int block(int block, int what) {
        State now = forest.now;
        if (!now.isBlock(block)) {
            return NONE;
        }
        switch (what) {
            case 0: return now.count[block];
            case 1: return now.saved[block];
            case 2: return now.levelOf(block);
            case 3: return now.sizeOf(block);
            case 4: return now.isFresh(block) ? 1 : 0;
            case 5: return now.isHeld(block) ? 1 : 0;
            default: return NONE;
        }
    }

    public int entry(int block, int k, int what) {
        State now = forest.now;
        if (!now.isBlock(block) || k < 0 || k >= now.sizeOf(block)) {
            return NONE;
        }
        int slot = now.slot(block, k);
        if (what == 0) {
            return now.keys[slot];
        }
        return what == 1 ? now.values[slot] : NONE;
    }

    public int kept(int k, int what) {
        return history.toldOf(k, what);
    }

    // ---- reading

    public int read(int volume, int key) {
        return forest.now.isVolume(volume) ? forest.now.valueAt(forest.now.roots[volume], key) : NONE;
    }

    public int key(int volume, int k) {
        State now = forest.now;
        if (!now.isVolume(volume) || k < 0 || k >= walk.gather(now, now.roots[volume])) {
            return NONE;
        }
        return walk.keys[k];
    }

    public int total(int volume, int from, int to) {
        State now = forest.now;
        if (!now.isVolume(volume)) {
            return NONE;
        }
        int keys = walk.gather(now, now.roots[volume]);
        int sum = 0;
        for (int i = 0; i < keys; i++) {
            if (walk.keys[i] >= from && walk.keys[i] <= to) {
                sum += walk.values[i];
            }
        }
        return sum;
    }

    public int path(int volume, int key, int k) {
        State now = forest.now;
        if (!now.isVolume(volume) || !isKey(key) || k < 0) {
            return NONE;
        }
        int block = now.roots[volume];
        if (block == EMPTY || k > now.level[block]) {
            return NONE;
        }
        for (int i = 0; i < k; i++) {
            block = now.below(block, key);
        }
        return block;
    }

    // ---- what is shared, what it takes

    public int shared(int one, int other) {
        State now = forest.now;
        if (!now.isVolume(one) || !now.isVolume(other)) {
            return NONE;
        }
        return Long.bitCount(walk.tree(now, now.roots[one]) & walk.tree(now, now.roots[other]));
    }

    public int differs(int one, int other, int k) {
        State now = forest.now;
        if (!now.isVolume(one) || !now.isVolume(other)) {
            return NONE;
        }
        return unlike(now.roots[one], now.roots[other], k);
    }

    public int writes(int volume, int key, int what) {
        if (!forest.now.isVolume(volume) || !isKey(key)) {
            return NONE;
        }
        if (what == 0) {
            return forest.wouldWrite(volume, key);
        }
        return what == 1 ? forest.wouldCost(volume, key) : NONE;
    }

    public int spread(int volume, int n) {
        if (!forest.now.isVolume(volume) || n < NONE) {
            return NONE;
        }
        int found = 0;
        for (int key = 0; key < SPREAD_KEYS; key++) {
            if (forest.wouldWrite(volume, key) == n) {
                found++;
            }
        }
        return found;
    }

    public int lost(int block) {
        if (!forest.now.isBlock(block)) {
            return NONE;
        }
        growTrees();
        return lostWith(block);
    }

    public int worst(int what) {
        growTrees();
        int block = NONE;
        int most = 0;
        for (int b = 0; b < forest.now.blocks; b++) {
            int keys = lostWith(b);
            if (keys > most) {
                most = keys;
                block = b;
            }
        }
        if (block == NONE) {
            return NONE;
        }
        return oneOf(what, block, most);
    }

    public int victim(int what) {
        State now = forest.now;
        int volume = NONE;
        int most = NONE;
        for (int v = 0; v < MOST_VOLUMES; v++) {
            int freed = now.isVolume(v) ? forest.freedWith(now.roots[v]) : NONE;
            if (freed > most) {
                most = freed;
                volume = v;
            }
        }
        return oneOf(what, volume, most);
    }

    public int room(int what) {
        State now = forest.now;
        if (!told) {
            return NONE;
        }
        switch (what) {
            case 0: return now.blocks - now.used() - now.held();
            case 1: return now.blocks - now.used();
            case 2: return now.blocks - now.keptBlocks();
            default: return NONE;
        }
    }

    public int back(int volume) {
        State now = forest.now;
        if (!now.isVolume(volume) || now.savedRoots[volume] == ABSENT) {
            return NONE;
        }
        return unlike(now.roots[volume], now.savedRoots[volume], NONE);
    }

    // ---- what was seen

    public int see() {
        boolean good = sight.take(tape);
        tape.length = 0;
        return good ? sight.rows : refuse(TEXT_REFUSED);
    }

    public int fits(int k) {
        int found = sight.findFits(forest.now);
        if (k == NONE) {
            return found;
        }
        return k >= 0 && k < found ? sight.fit[k] : NONE;
    }

    public int tells(int what) {
        if (sight.findFits(forest.now) == 0) {
            return NONE;
        }
        int best = 0;
        int least = MOST_VOLUMES + 1;
        for (int key = 0; key < SPREAD_KEYS; key++) {
            int left = sight.mostLeft(forest.now, key);
            if (left < least) {
                least = left;
                best = key;
            }
        }
        return oneOf(what, best, least);
    }

    // ---- acts

    public int put(int volume, int key, int value) {
        if (!forest.now.isVolume(volume) || !isKey(key) || !isKey(value)) {
            return refuse(CHANGE_REFUSED);
        }
        forest.begin();
        if (!forest.tryPlant(volume, key, value)) {
            return refuse(CHANGE_REFUSED);
        }
        return finish(PUT, volume);
    }

    public int remove(int volume, int key) {
        if (!forest.now.isVolume(volume)) {
            return refuse(CHANGE_REFUSED);
        }
        forest.begin();
        if (!forest.tryUproot(volume, key)) {
            return refuse(CHANGE_REFUSED);
        }
        return finish(REMOVE, volume);
    }

    public int copy(int volume) {
        int fresh = forest.now.freeNumber();
        if (!forest.now.isVolume(volume) || fresh == NONE) {
            return refuse(CHANGE_REFUSED);
        }
        forest.begin();
        forest.share(volume, fresh);
        finish(COPY, fresh);
        return fresh;
    }

    public int drop(int volume) {
        if (!forest.now.isVolume(volume)) {
            return refuse(CHANGE_REFUSED);
        }
        forest.begin();
        int used = forest.now.used();
        forest.letGo(volume);
        finish(DROP, volume);
        return used - forest.now.used();
    }

    public int checkpoint() {
        if (!told) {
            return refuse(WHOLE_REFUSED);
        }
        forest.begin();
        int held = forest.now.held();
        forest.now.save();
        finish(CHECKPOINT, NO_VOLUME);
        return held;
    }

    public int crash() {
        if (!told) {
            return refuse(WHOLE_REFUSED);
        }
        forest.begin();
        int fresh = forest.now.freshBlocks();
        forest.now.fallBack();
        finish(CRASH, NO_VOLUME);
        return fresh;
    }

    public int chance(int n) {
        if (!told || n < 1 || n > MOST_CHANCES) {
            return refuse(WHOLE_REFUSED);
        }
        forest.begin();
        int done = 0;
        for (int i = 0; i < n; i++) {
            if (forest.actBySeed()) {
                done++;
            }
        }
        finish(BY_SEED, NO_VOLUME);
        return done;
    }

    public boolean undo() {
        State past = history.forget();
        if (past == null) {
            refuse(UNDO_REFUSED);
            return false;
        }
        forest.now.become(past);
        return true;
    }

    public boolean seed(int seed) {
        if (seed < 0) {
            refuse(LOAD_REFUSED);
            return false;
        }
        forest.seed = seed;
        return true;
    }

    // ---- questions

    public long ask() {
        if (!told) {
            tape.length = 0;
            return NOTHING;
        }
        int what = reader.readQuestion(spare.code);
        tape.length = 0;
        if (reader.fault != 0) {
            return NOTHING;
        }
        switch (what) {
            case W_FIRST:
            case W_LAST:
            case W_OFTEN: return answerTest(what);
            default: return answerSum(what);
        }
    }

    // ---- images, refusals

    public int image() {
        return picture.draw(forest.now);
    }

    public int octet(int k) {
        return k >= 0 && k < picture.size ? picture.bytes[k] : NONE;
    }

    public boolean on() {
        boolean good = told && picture.load(tape, forest.inner, plan.blocks, plan.entriesMost);
        tape.length = 0;
        if (!good) {
            refuse(LOAD_REFUSED);
            return false;
        }
        forest.now.become(forest.inner);
        history.clear();
        return true;
    }

    public int status(int what) {
        return what >= 0 && what < REFUSALS ? refused[what] : NONE;
    }

    private int refuse(int kind) {
        refused[kind]++;
        return NONE;
    }

    private static boolean isKey(int key) {
        return key >= 0 && key <= MOST_KEY;
    }

    private static int oneOf(int what, int first, int second) {
        if (what == 0) {
            return first;
        }
        return what == 1 ? second : NONE;
    }

    /** Closes an ACT that was begun: its blocks are counted and paid, it is KEPT and can be undone. */
    private int finish(int act, int volume) {
        int wrote = forest.settle();
        history.keep(act, volume, wrote);
        forest.before = history.remember(forest.before);
        return wrote;
    }

    /** Of two trees, the k-th KEY at which they are unlike, or how many there are (k NONE). */
    private int unlike(int root, int otherRoot, int k) {
        int most = walk.gather(forest.now, root);
        int otherMost = otherWalk.gather(forest.now, otherRoot);
        int found = 0;
        int i = 0;
        int j = 0;
        for (int step = 0; step < 2 * MOST_SLOTS && (i < most || j < otherMost); step++) {
            int key = i < most ? walk.keys[i] : NO_KEY;
            int otherKey = j < otherMost ? otherWalk.keys[j] : NO_KEY;
            boolean same = key == otherKey && walk.values[i] == otherWalk.values[j];
            if (!same && found == k) {
                return Math.min(key, otherKey);
            }
            found += same ? 0 : 1;
            i += key <= otherKey ? 1 : 0;
            j += otherKey <= key ? 1 : 0;
        }
        return k == NONE ? found : NONE;
    }

    /** Lays ready which BLOCKS are in the TREE of each VOLUME. */
    private void growTrees() {
        State now = forest.now;
        for (int v = 0; v < MOST_VOLUMES; v++) {
            trees[v] = now.isVolume(v) ? walk.tree(now, now.roots[v]) : 0L;
        }
    }

    private int lostWith(int block) {
        int found = 0;
        for (int v = 0; v < MOST_VOLUMES; v++) {
            found += (int) (trees[v] >>> block & 1L);
        }
        return found == 0 ? 0 : found * walk.gather(forest.now, block);
    }

    private long answerTest(int what) {
        int found = 0;
        int latest = NONE;
        for (int b = 0; b < forest.now.blocks; b++) {
            if (forest.valueFor(b, spare.code) != 0) {
                if (what == W_FIRST) {
                    return b;
                }
                found++;
                latest = b;
            }
        }
        return what == W_OFTEN ? found : latest;
    }

    private long answerSum(int what) {
        long all = 0;
        int most = -LIMIT;
        int least = LIMIT;
        for (int b = 0; b < forest.now.blocks; b++) {
            int value = forest.valueFor(b, spare.code);
            all += value;
            most = Math.max(most, value);
            least = Math.min(least, value);
        }
        if (what == W_TOTAL) {
            return all;
        }
        return what == W_MOST ? most : least;
    }

    /** The bytes fed and not yet used, each 0 .. 255. */
    private static final class Tape {
        private static final int FED_AT_ONCE = 20;

        final int[] bytes = new int[MOST_TAPE];
        int length;

        boolean hasRoom() {
            return length + FED_AT_ONCE <= MOST_TAPE;
        }

        void append(int four) {
            for (int shift = 24; shift >= 0 && length < MOST_TAPE; shift -= 8) {
                bytes[length] = four >>> shift & 255;
                length++;
            }
        }

        /** Byte k, NONE behind the last one. */
        int at(int k) {
            return k >= 0 && k < length ? bytes[k] : NONE;
        }

        /** The number of two bytes from k on. */
        int pair(int k) {
            return at(k) * 256 + at(k + 1);
        }
    }

    /** The steps of formulas, each behind what it acts on. */
    private static final class Code {
        final int[] steps = new int[MOST_TAPE];
        int size;

        void add(int step) {
            if (size < MOST_TAPE) {
                steps[size] = step;
                size++;
            }
        }
    }

    /** What the text of a STORE tells. */
    private static final class Plan {
        int blocks;
        int entriesMost;
        int churn;
        int statements;
        int volumes;
        int changes;
        final int[] names = new int[MOST_VOLUMES * MOST_LETTERS];
        final int[] kinds = new int[MOST_STATEMENTS];
        final int[] who = new int[MOST_STATEMENTS];
        final int[] first = new int[MOST_STATEMENTS];
        final int[] second = new int[MOST_STATEMENTS];
        final Code code = new Code();
        /** Where the steps of picks, splits, costs begin (NONE without) and end. */
        final int[] begins = new int[IN_QUESTION];
        final int[] ends = new int[IN_QUESTION];

        Plan() {
            clear();
        }

        void clear() {
            statements = 0;
            volumes = 0;
            changes = 0;
            churn = 0;
            code.size = 0;
            for (int i = 0; i < IN_QUESTION; i++) {
                begins[i] = NONE;
                ends[i] = NONE;
            }
        }

        int volumeNamed(Tape tape, int start, int stop) {
            for (int v = 0; v < volumes; v++) {
                boolean same = true;
                for (int k = 0; k < MOST_LETTERS; k++) {
                    same = same && names[v * MOST_LETTERS + k] == letterAt(tape, start + k, stop);
                }
                if (same) {
                    return v;
                }
            }
            return NONE;
        }

        int addVolume(Tape tape, int start, int stop) {
            if (volumes >= MOST_VOLUMES) {
                return NONE;
            }
            for (int k = 0; k < MOST_LETTERS; k++) {
                names[volumes * MOST_LETTERS + k] = letterAt(tape, start + k, stop);
            }
            volumes++;
            return volumes - 1;
        }

        void addChange(int kind, int volume, int one, int other) {
            if (changes < MOST_STATEMENTS) {
                kinds[changes] = kind;
                who[changes] = volume;
                first[changes] = one;
                second[changes] = other;
                changes++;
            }
        }

        private static int letterAt(Tape tape, int k, int stop) {
            return k < stop ? tape.at(k) - 'a' + 1 : 0;
        }
    }

    /** Reads the texts of STORES and QUESTIONS, and tells their first FAULT. */
    private static final class Reader {
        private static final int AT_END = 0;
        private static final int A_WORD = 1;
        private static final int A_NUMBER = 2;
        private static final int A_SIGN = 3;
        /** A word or number with no blank to the one ahead of it. */
        private static final int GLUED = 4;
        private static final int UNKNOWN = -1;

        private static final int NO_TEXT = 1;
        private static final int BAD_NUMBER = 2;
        private static final int BAD_NAME = 3;
        private static final int TOO_DEEP = 4;
        private static final int TOO_MANY = 5;

        int fault;
        int place = NONE;
        private final Tape tape;
        private final char[] words = WORDS.toCharArray();
        private Code code;
        private int mode;
        private int open;
        private int kind;
        private int start;
        private int stop;
        private int word;
        private int sign;

        Reader(Tape tape) {
            this.tape = tape;
        }

        boolean readStore(Plan plan) {
            plan.clear();
            begin(plan.code);
            for (int i = 0; i < MOST_STATEMENTS && kind != AT_END; i++) {
                readStatement(plan);
            }
            if (kind != AT_END) {
                fail(TOO_MANY, start);
            } else if (plan.statements == 0) {
                fail(NO_TEXT, start);
            }
            return fault == 0;
        }

        /** Which word begins the QUESTION; its formula goes into the code. */
        int readQuestion(Code into) {
            into.size = 0;
            begin(into);
            mode = IN_QUESTION;
            int what = kind == A_WORD ? word : UNKNOWN;
            switch (what) {
                case W_FIRST:
                case W_LAST:
                case W_OFTEN:
                    advance();
                    readTest();
                    break;
                case W_TOTAL:
                case W_MOST:
                case W_LEAST:
                    advance();
                    readSum();
                    break;
                default:
                    fail(NO_TEXT, start);
            }
            if (kind != AT_END) {
                fail(NO_TEXT, start);
            }
            return what;
        }

        private void begin(Code into) {
            code = into;
            fault = 0;
            place = NONE;
            open = 0;
            stop = 0;
            advance();
        }

        /** Keeps the first FAULT, and reads no further: for all that is still asked the text is at its end. */
        private boolean fail(int which, int where) {
            if (fault == 0) {
                fault = which;
                place = where;
                kind = AT_END;
            }
            return false;
        }

        // ---- words, numbers, signs

        private void advance() {
            if (fault != 0) {
                return;
            }
            start = stop;
            while (start < tape.length && isBlank(tape.bytes[start])) {
                start++;
            }
            stop = start;
            word = UNKNOWN;
            sign = tape.at(start);
            if (sign == NONE) {
                kind = AT_END;
            } else if (isLetter(sign)) {
                kind = A_WORD;
                while (stop < tape.length && isLetter(tape.bytes[stop])) {
                    stop++;
                }
                word = wordNumber();
            } else if (isDigit(sign)) {
                kind = A_NUMBER;
                while (stop < tape.length && isDigit(tape.bytes[stop])) {
                    stop++;
                }
            } else {
                kind = A_SIGN;
                stop++;
            }
            int ahead = tape.at(start - 1);
            if ((kind == A_WORD || kind == A_NUMBER) && (isLetter(ahead) || isDigit(ahead))) {
                kind = GLUED;
            }
        }

        /** Which of WORDS stands from start to stop. */
        private int wordNumber() {
            int number = 0;
            int at = start;
            boolean same = true;
            for (int i = 0; i < words.length; i++) {
                if (words[i] != ' ') {
                    same = same && at < stop && tape.bytes[at] == words[i];
                    at++;
                } else if (same && at == stop) {
                    return number;
                } else {
                    number++;
                    at = start;
                    same = true;
                }
            }
            return same && at == stop ? number : UNKNOWN;
        }

        private static boolean isBlank(int c) {
            return c == 10 || c == 32;
        }

        private static boolean isLetter(int c) {
            return c >= 'a' && c <= 'z';
        }

        private static boolean isDigit(int c) {
            return c >= '0' && c <= '9';
        }

        private boolean isWord(int which) {
            return kind == A_WORD && word == which;
        }

        private boolean isSign(int which) {
            return kind == A_SIGN && sign == which;
        }

        private void expectWord(int which) {
            if (isWord(which)) {
                advance();
            } else {
                fail(NO_TEXT, start);
            }
        }

        private void expectSign(int which) {
            if (isSign(which)) {
                advance();
            } else {
                fail(NO_TEXT, start);
            }
        }

        private int expectNumber(int least, int most) {
            if (kind != A_NUMBER) {
                fail(NO_TEXT, start);
                return least;
            }
            if (stop - start > MOST_DIGITS) {
                fail(NO_TEXT, start + MOST_DIGITS);
                return least;
            }
            int number = 0;
            for (int i = start; i < stop; i++) {
                number = number * 10 + tape.at(i) - '0';
            }
            if (number < least || number > most) {
                fail(BAD_NUMBER, start);
                return least;
            }
            advance();
            return number;
        }

        private boolean isName() {
            if (kind != A_WORD || word != UNKNOWN && word < OWN_WORDS) {
                return fail(NO_TEXT, start);
            }
            return stop - start <= MOST_LETTERS || fail(NO_TEXT, start + MOST_LETTERS);
        }

        private int expectVolume(Plan plan) {
            if (!isName()) {
                return NONE;
            }
            int volume = plan.volumeNamed(tape, start, stop);
            if (volume == NONE) {
                fail(BAD_NAME, start);
            }
            advance();
            return volume;
        }

        // ---- STATEMENTS

        private void readStatement(Plan plan) {
            int head = kind == A_WORD ? word : UNKNOWN;
            boolean isFirst = plan.statements == 0;
            if (isFirst != (head == W_BLOCKS)) {
                fail(NO_TEXT, start);
                return;
            }
            switch (head) {
                case W_BLOCKS: readBlocks(plan); break;
                case W_VOLUME:
                case W_CLONE: readVolume(plan, head); break;
                case W_PUT:
                case W_REMOVE: readChange(plan, head); break;
                case W_PICKS:
                    beginFormula(plan, IN_PICKS);
                    readSum();
                    plan.ends[IN_PICKS] = code.size;
                    break;
                case W_SPLITS:
                    beginFormula(plan, IN_SPLITS);
                    readTest();
                    plan.ends[IN_SPLITS] = code.size;
                    break;
                case W_COSTS:
                    beginFormula(plan, IN_COSTS);
                    readSum();
                    plan.ends[IN_COSTS] = code.size;
                    break;
                case W_CHURN:
                    advance();
                    plan.churn = expectNumber(0, 100);
                    break;
                default: fail(NO_TEXT, start);
            }
            expectSign(';');
            plan.statements++;
        }

        private void readBlocks(Plan plan) {
            advance();
            plan.blocks = expectNumber(8, MOST_BLOCKS);
            expectWord(W_ROOM);
            plan.entriesMost = expectNumber(3, MOST_ENTRIES);
        }

        private void readVolume(Plan plan, int head) {
            if (plan.volumes == MOST_VOLUMES) {
                fail(TOO_MANY, start);
            }
            advance();
            if (!isName()) {
                return;
            }
            if (plan.volumeNamed(tape, start, stop) != NONE) {
                fail(BAD_NAME, start);
            }
            int from = start;
            int to = stop;
            int source = NONE;
            advance();
            if (head == W_CLONE) {
                expectWord(W_OF);
                source = expectVolume(plan);
            }
            plan.addChange(head, plan.addVolume(tape, from, to), source, 0);
        }

        private void readChange(Plan plan, int head) {
            advance();
            int volume = expectVolume(plan);
            int key = expectNumber(0, MOST_KEY);
            int value = head == W_PUT ? expectNumber(0, MOST_KEY) : 0;
            plan.addChange(head, volume, key, value);
        }

        private void beginFormula(Plan plan, int which) {
            if (plan.begins[which] != NONE) {
                fail(TOO_MANY, start);
            }
            advance();
            mode = which;
            plan.begins[which] = code.size;
        }

        // ---- TESTS and SUMS; they call one another no deeper than MOST_OPEN signs and words are open

        private void readTest() {
            readBoth();
            for (int i = 0; i < MOST_TAPE && isWord(W_OR); i++) {
                advance();
                readBoth();
                code.add(EITHER);
            }
        }

        private void readBoth() {
            readFact();
            for (int i = 0; i < MOST_TAPE && isWord(W_AND); i++) {
                advance();
                readFact();
                code.add(BOTH);
            }
        }

        private void readFact() {
            if (isWord(W_NOT)) {
                if (opens()) {
                    advance();
                    readFact();
                    code.add(NEGATE);
                    open--;
                }
            } else if (isSign('[')) {
                if (opens()) {
                    advance();
                    readTest();
                    expectSign(']');
                    open--;
                }
            } else if (isWord(W_ALL)) {
                code.add(1);
                advance();
            } else {
                readSum();
                int step = comparison();
                readSum();
                code.add(step);
            }
        }

        private int comparison() {
            int step = SAME;
            if (isSign('<')) {
                step = BELOW;
            } else if (isSign('>')) {
                step = ABOVE;
            } else if (!isSign('=')) {
                fail(NO_TEXT, start);
            }
            advance();
            return step;
        }

        private void readSum() {
            readProduct();
            for (int i = 0; i < MOST_TAPE && (isSign('+') || isSign('-')); i++) {
                int step = isSign('+') ? ADD : SUBTRACT;
                advance();
                readProduct();
                code.add(step);
            }
        }

        private void readProduct() {
            readPart();
            for (int i = 0; i < MOST_TAPE && (isSign('*') || isSign('/')); i++) {
                int step = isSign('*') ? MULTIPLY : DIVIDE;
                advance();
                readPart();
                code.add(step);
            }
        }

        private void readPart() {
            if (kind == A_NUMBER) {
                code.add(expectNumber(0, LIMIT));
            } else if (isSign('(')) {
                if (opens()) {
                    advance();
                    readSum();
                    expectSign(')');
                    open--;
                }
            } else if (isWord(W_MIN) || isWord(W_MAX)) {
                readChoice(isWord(W_MIN) ? LESSER : GREATER);
            } else if (mode == IN_QUESTION && (isWord(W_REFS) || isWord(W_KEY))) {
                readOther(isWord(W_REFS) ? REFS_OF : KEY_OF);
            } else if (isFact()) {
                code.add(FACT - word);
                advance();
            } else {
                fail(NO_TEXT, start);
            }
        }

        private void readChoice(int step) {
            advance();
            if (!isSign('(')) {
                fail(NO_TEXT, start);
            } else if (opens()) {
                advance();
                readSum();
                expectSign(',');
                readSum();
                expectSign(')');
                open--;
                code.add(step);
            }
        }

        private void readOther(int step) {
            if (opens()) {
                advance();
                readPart();
                code.add(step);
                open--;
            }
        }

        private boolean opens() {
            if (open >= MOST_OPEN) {
                return fail(TOO_DEEP, start);
            }
            open++;
            return true;
        }

        private boolean isFact() {
            if (kind != A_WORD) {
                return false;
            }
            switch (word) {
                case W_LEVEL: return true;
                case W_BLOCK: return mode == IN_PICKS || mode == IN_COSTS;
                case W_FROM: return mode == IN_PICKS;
                case W_ENTRIES: return mode != IN_PICKS;
                case W_NUMBER:
                case W_COUNT:
                case W_FRESH:
                case W_SAVED: return mode == IN_QUESTION;
                default: return false;
            }
        }
    }

    /** Tells what a formula gives for one BLOCK. */
    private static final class Machine {
        /** Far above what MOST_OPEN open signs can leave waiting: each leaves three numbers at the most. */
        private static final int MOST_WAITING = 64;

        private final int[] stack = new int[MOST_WAITING];
        private int top;
        /** The BLOCK's facts. */
        int number;
        int source;
        int level;
        int entries;
        int count;
        int fresh;
        int saved;
        /** Where refs and key look. */
        private final State state;

        Machine(State state) {
            this.state = state;
        }

        int value(Code code, int from, int to) {
            top = 0;
            for (int i = from; i >= 0 && i < to && i < code.size; i++) {
                int step = code.steps[i];
                if (step >= 0) {
                    push(step);
                } else if (step <= FACT) {
                    push(fact(FACT - step));
                } else if (step <= NEGATE) {
                    push(changed(step, pop()));
                } else {
                    int right = pop();
                    push(joined(step, pop(), right));
                }
            }
            return pop();
        }

        private void push(int value) {
            if (top < MOST_WAITING) {
                stack[top] = value;
                top++;
            }
        }

        private int pop() {
            if (top <= 0) {
                return 0;
            }
            top--;
            return stack[top];
        }

        private int fact(int word) {
            switch (word) {
                case W_BLOCK:
                case W_NUMBER: return number;
                case W_FROM: return source;
                case W_LEVEL: return level;
                case W_ENTRIES: return entries;
                case W_COUNT: return count;
                case W_FRESH: return fresh;
                case W_SAVED: return saved;
                default: return 0;
            }
        }

        private int changed(int step, int value) {
            if (step == NEGATE) {
                return 1 - value;
            }
            if (value < 0 || value >= state.blocks || state.count[value] == 0) {
                return 0;
            }
            return step == REFS_OF ? state.count[value] : state.keys[value * MOST_ENTRIES];
        }

        private static int joined(int step, int left, int right) {
            long exact = 0L;
            switch (step) {
                case ADD: exact = left + right; break;
                case SUBTRACT: exact = left - right; break;
                case MULTIPLY: exact = (long) left * right; break;
                // Less what is left over, as Java's own / goes towards 0.
                case DIVIDE: exact = right == 0 ? 0 : (left - (left % right + right) % right) / right; break;
                case LESSER: exact = left < right ? left : right; break;
                case GREATER: exact = left > right ? left : right; break;
                case BELOW: exact = left < right ? 1 : 0; break;
                case ABOVE: exact = left > right ? 1 : 0; break;
                case SAME: exact = left == right ? 1 : 0; break;
                case BOTH: exact = left & right; break;
                case EITHER: exact = left | right; break;
                default: break;
            }
            if (exact > LIMIT) {
                return LIMIT;
            }
            return exact < -LIMIT ? -LIMIT : (int) exact;
        }
    }

    /** All that an ACT can change, now and in the CHECKPOINT: what is undone is one of these. */
    private static final class State {
        int blocks;
        int spent;
        /** A bit for each BLOCK that the ACT TOOK or changed. */
        long written;
        final int[] count = new int[MOST_BLOCKS];
        final int[] saved = new int[MOST_BLOCKS];
        /** LEVEL and ENTRIES of a BLOCK stand while it is in use or HELD; no other one has a meaning here. */
        final int[] level = new int[MOST_BLOCKS];
        final int[] size = new int[MOST_BLOCKS];
        final int[] keys = new int[MOST_SLOTS];
        final int[] values = new int[MOST_SLOTS];
        final int[] roots = new int[MOST_VOLUMES];
        final int[] savedRoots = new int[MOST_VOLUMES];

        State() {
            clear(0);
        }

        void clear(int so) {
            blocks = so;
            spent = 0;
            written = 0L;
            for (int b = 0; b < MOST_BLOCKS; b++) {
                count[b] = 0;
                saved[b] = 0;
                level[b] = 0;
                size[b] = 0;
            }
            for (int v = 0; v < MOST_VOLUMES; v++) {
                roots[v] = ABSENT;
                savedRoots[v] = ABSENT;
            }
        }

        void become(State other) {
            blocks = other.blocks;
            spent = other.spent;
            written = other.written;
            System.arraycopy(other.count, 0, count, 0, MOST_BLOCKS);
            System.arraycopy(other.saved, 0, saved, 0, MOST_BLOCKS);
            System.arraycopy(other.level, 0, level, 0, MOST_BLOCKS);
            System.arraycopy(other.size, 0, size, 0, MOST_BLOCKS);
            System.arraycopy(other.keys, 0, keys, 0, MOST_SLOTS);
            System.arraycopy(other.values, 0, values, 0, MOST_SLOTS);
            System.arraycopy(other.roots, 0, roots, 0, MOST_VOLUMES);
            System.arraycopy(other.savedRoots, 0, savedRoots, 0, MOST_VOLUMES);
        }

        /** The CHECKPOINT; the BLOCKS it keeps are not changed any more, so their ENTRIES need no copy. */
        void save() {
            System.arraycopy(count, 0, saved, 0, MOST_BLOCKS);
            System.arraycopy(roots, 0, savedRoots, 0, MOST_VOLUMES);
        }

        /** The CRASH. */
        void fallBack() {
            System.arraycopy(saved, 0, count, 0, MOST_BLOCKS);
            System.arraycopy(savedRoots, 0, roots, 0, MOST_VOLUMES);
        }

        boolean isVolume(int v) {
            return v >= 0 && v < MOST_VOLUMES && roots[v] != ABSENT;
        }

        boolean isBlock(int b) {
            return b >= 0 && b < blocks;
        }

        boolean inUse(int b) {
            return isBlock(b) && count[b] > 0;
        }

        boolean isHeld(int b) {
            return isBlock(b) && count[b] == 0 && saved[b] > 0;
        }

        boolean isFresh(int b) {
            return isBlock(b) && count[b] > 0 && saved[b] == 0;
        }

        boolean isFree(int b) {
            return isBlock(b) && count[b] == 0 && saved[b] == 0;
        }

        int levelOf(int b) {
            return inUse(b) || isHeld(b) ? level[b] : 0;
        }

        int sizeOf(int b) {
            return inUse(b) || isHeld(b) ? size[b] : 0;
        }

        int volumes() {
            int found = 0;
            for (int v = 0; v < MOST_VOLUMES; v++) {
                found += isVolume(v) ? 1 : 0;
            }
            return found;
        }

        int freeNumber() {
            for (int v = 0; v < MOST_VOLUMES; v++) {
                if (!isVolume(v)) {
                    return v;
                }
            }
            return NONE;
        }

        int used() {
            int found = 0;
            for (int b = 0; b < blocks; b++) {
                found += count[b] > 0 ? 1 : 0;
            }
            return found;
        }

        int held() {
            int found = 0;
            for (int b = 0; b < blocks; b++) {
                found += isHeld(b) ? 1 : 0;
            }
            return found;
        }

        int freshBlocks() {
            int found = 0;
            for (int b = 0; b < blocks; b++) {
                found += isFresh(b) ? 1 : 0;
            }
            return found;
        }

        int keptBlocks() {
            int found = 0;
            for (int b = 0; b < blocks; b++) {
                found += saved[b] > 0 ? 1 : 0;
            }
            return found;
        }

        int slot(int b, int k) {
            return b * MOST_ENTRIES + k;
        }

        /** Which ENTRY of a BLOCK above LEVEL 0 is the one for a KEY. */
        int entryFor(int b, int key) {
            int found = 0;
            for (int k = 1; k < size[b]; k++) {
                if (keys[slot(b, k)] <= key) {
                    found = k;
                }
            }
            return found;
        }

        /** The BLOCK below one above LEVEL 0, on the way to a KEY. */
        int below(int b, int key) {
            return values[slot(b, entryFor(b, key))];
        }

        /** Which ENTRY of a BLOCK of LEVEL 0 has a KEY. */
        int find(int b, int key) {
            for (int k = 0; k < size[b]; k++) {
                if (keys[slot(b, k)] == key) {
                    return k;
                }
            }
            return NONE;
        }

        int valueAt(int root, int key) {
            if (root < 0) {
                return NONE;
            }
            int b = root;
            for (int i = level[root]; i > 0; i--) {
                b = below(b, key);
            }
            int k = find(b, key);
            return k == NONE ? NONE : values[slot(b, k)];
        }

        /** Puts an ENTRY ahead of the k-th one. */
        void insert(int b, int k, int key, int value) {
            if (k < 0 || k > size[b] || size[b] >= MOST_ENTRIES) {
                return;
            }
            int slot = slot(b, k);
            for (int i = slot(b, size[b]); i > slot; i--) {
                keys[i] = keys[i - 1];
                values[i] = values[i - 1];
            }
            keys[slot] = key;
            values[slot] = value;
            size[b]++;
            mark(b);
        }

        void delete(int b, int k) {
            if (k < 0 || k >= size[b]) {
                return;
            }
            size[b]--;
            int last = slot(b, size[b]);
            for (int i = slot(b, k); i < last; i++) {
                keys[i] = keys[i + 1];
                values[i] = values[i + 1];
            }
            mark(b);
        }

        /** Changes what the k-th ENTRY has; one that has it already is not changed. */
        void set(int b, int k, int value) {
            int slot = slot(b, k);
            if (values[slot] != value) {
                values[slot] = value;
                mark(b);
            }
        }

        void mark(int b) {
            written |= 1L << b;
        }
    }

    /** What the ACTS do to the BLOCKS. */
    private static final class Forest {
        final State now = new State();
        /** How all was ahead of the ACT that is going on, and ahead of one PUT or REMOVE in it. */
        State before = new State();
        final State inner = new State();
        int seed = 1;
        private Plan plan;
        private final Machine machine = new Machine(now);
        /** BLOCKS whose COUNT fell to 0, or on the way to a KEY, and which ENTRY led on from there. */
        private final int[] chain = new int[MOST_BLOCKS];
        private final int[] turns = new int[MOST_BLOCKS];
        private final int[] counts = new int[MOST_BLOCKS];

        Forest(Plan plan) {
            this.plan = plan;
        }

        void build(Plan told) {
            plan = told;
            now.clear(told.blocks);
            for (int i = 0; i < told.changes; i++) {
                int v = told.who[i];
                switch (told.kinds[i]) {
                    case W_VOLUME: now.roots[v] = EMPTY; break;
                    case W_CLONE: share(told.first[i], v); break;
                    case W_PUT: tryPlant(v, told.first[i], told.second[i]); break;
                    case W_REMOVE: tryUproot(v, told.first[i]); break;
                    default: break;
                }
            }
            now.save();
            now.spent = 0;
            now.written = 0L;
        }

        void begin() {
            before.become(now);
            now.written = 0L;
        }

        /** Pays for what the ACT WROTE: how many BLOCKS. */
        int settle() {
            now.spent = Math.min(MOST_COST, now.spent + price());
            return wrote();
        }

        private int wrote() {
            int found = 0;
            for (int b = 0; b < now.blocks; b++) {
                found += isWritten(b) ? 1 : 0;
            }
            return found;
        }

        private int price() {
            int sum = 0;
            for (int b = 0; b < now.blocks; b++) {
                sum += isWritten(b) ? Math.max(0, Math.min(99, costOf(b))) : 0;
            }
            return sum;
        }

        private boolean isWritten(int b) {
            return now.inUse(b) && (now.written >>> b & 1L) != 0L;
        }

        int wouldWrite(int volume, int key) {
            boolean can = rehearse(volume, key);
            int found = can ? wrote() : NONE;
            now.become(before);
            return found;
        }

        int wouldCost(int volume, int key) {
            boolean can = rehearse(volume, key);
            int sum = can ? price() : NONE;
            now.become(before);
            return sum;
        }

        /** PUTS a KEY with another VALUE than it has; the caller brings back what was before. */
        private boolean rehearse(int volume, int key) {
            begin();
            int other = now.valueAt(now.roots[volume], key) == 0 ? 1 : 0;
            return plant(volume, key, other);
        }

        // ---- the formulas

        private int costOf(int b) {
            if (plan.begins[IN_COSTS] == NONE) {
                return 1;
            }
            machine.number = b;
            machine.level = now.level[b];
            machine.entries = now.size[b];
            return machine.value(plan.code, plan.begins[IN_COSTS], plan.ends[IN_COSTS]);
        }

        private boolean splits(int b) {
            if (now.size[b] >= plan.entriesMost) {
                return true;
            }
            if (now.size[b] < 2 || plan.begins[IN_SPLITS] == NONE) {
                return false;
            }
            machine.level = now.level[b];
            machine.entries = now.size[b];
            return machine.value(plan.code, plan.begins[IN_SPLITS], plan.ends[IN_SPLITS]) != 0;
        }

        /** What the formula of a QUESTION gives for a BLOCK. */
        int valueFor(int b, Code code) {
            machine.number = b;
            machine.level = now.levelOf(b);
            machine.entries = now.sizeOf(b);
            machine.count = now.count[b];
            machine.fresh = now.isFresh(b) ? 1 : 0;
            machine.saved = now.saved[b];
            return machine.value(code, 0, code.size);
        }

        // ---- TO TAKE, TO OWN, COUNTS

        private int take(int level, int source) {
            int best = NONE;
            int least = 0;
            boolean picks = plan.begins[IN_PICKS] != NONE;
            machine.level = level;
            machine.source = source;
            for (int b = 0; b < now.blocks; b++) {
                if (now.isFree(b)) {
                    machine.number = b;
                    int sum = picks ? machine.value(plan.code, plan.begins[IN_PICKS], plan.ends[IN_PICKS]) : b;
                    if (best == NONE || sum < least) {
                        best = b;
                        least = sum;
                    }
                }
            }
            if (best != NONE) {
                now.count[best] = 1;
                now.level[best] = level;
                now.size[best] = 0;
                now.mark(best);
            }
            return best;
        }

        /** The BLOCK itself, or the copy of it that may be changed in its place; NONE if none can be TAKEN. */
        private int owned(int b) {
            if (now.isFresh(b) && now.count[b] == 1) {
                return b;
            }
            int copy = take(now.level[b], b);
            if (copy == NONE) {
                return NONE;
            }
            layEntries(b, 0, copy);
            if (now.level[copy] > 0) {
                for (int k = 0; k < now.size[copy]; k++) {
                    now.count[now.values[now.slot(copy, k)]]++;
                }
            }
            release(b, now.count);
            return copy;
        }

        /** Lays the ENTRIES of a BLOCK from the k-th one on into an empty one. */
        private void layEntries(int b, int k, int into) {
            int moved = now.size[b] - k;
            System.arraycopy(now.keys, now.slot(b, k), now.keys, now.slot(into, 0), moved);
            System.arraycopy(now.values, now.slot(b, k), now.values, now.slot(into, 0), moved);
            now.size[into] = moved;
        }

        /** A COUNT less, and where it is 0 then for all in its ENTRIES, and so on: how many fell to 0. */
        private int release(int b, int[] count) {
            int fallen = 0;
            count[b]--;
            if (count[b] == 0) {
                chain[fallen] = b;
                fallen++;
            }
            for (int i = 0; i < fallen && i < MOST_BLOCKS; i++) {
                int entries = now.level[chain[i]] > 0 ? now.size[chain[i]] : 0;
                for (int k = 0; k < entries; k++) {
                    int child = now.values[now.slot(chain[i], k)];
                    count[child]--;
                    if (count[child] == 0 && fallen < MOST_BLOCKS) {
                        chain[fallen] = child;
                        fallen++;
                    }
                }
            }
            return fallen;
        }

        /** How many BLOCKS are in use no more without a ROOT. */
        int freedWith(int root) {
            if (root == EMPTY) {
                return 0;
            }
            System.arraycopy(now.count, 0, counts, 0, MOST_BLOCKS);
            return release(root, counts);
        }

        void share(int volume, int fresh) {
            now.roots[fresh] = now.roots[volume];
            if (now.roots[volume] != EMPTY) {
                now.count[now.roots[volume]]++;
            }
        }

        void letGo(int volume) {
            if (now.roots[volume] != EMPTY) {
                release(now.roots[volume], now.count);
            }
            now.roots[volume] = ABSENT;
        }

        // ---- TO PUT

        /** PUTS a KEY, or leaves all as it is if a BLOCK can't be TAKEN. */
        boolean tryPlant(int volume, int key, int value) {
            inner.become(now);
            boolean done = plant(volume, key, value);
            if (!done) {
                now.become(inner);
            }
            return done;
        }

        private boolean plant(int volume, int key, int value) {
            int b = now.roots[volume] == EMPTY ? take(0, NO_SOURCE) : owned(now.roots[volume]);
            if (b == NONE) {
                return false;
            }
            now.roots[volume] = b;
            if (splits(b)) {
                int top = raiseRoot(volume);
                b = top == NONE ? NONE : split(top, 0, b, key);
            }
            for (int i = b == NONE ? 0 : now.level[b]; i > 0 && b != NONE; i--) {
                int k = now.entryFor(b, key);
                int child = owned(now.values[now.slot(b, k)]);
                if (child == NONE) {
                    return false;
                }
                now.set(b, k, child);
                b = splits(child) ? split(b, k, child, key) : child;
            }
            if (b == NONE) {
                return false;
            }
            plantLow(b, key, value);
            return true;
        }

        /** A ROOT that is to SPLIT gets a BLOCK above it, the ROOT then; the one it is TAKEN from is the one that is split. */
        private int raiseRoot(int volume) {
            int root = now.roots[volume];
            int top = take(now.level[root] + 1, root);
            if (top != NONE) {
                now.insert(top, 0, now.keys[now.slot(root, 0)], root);
                now.roots[volume] = top;
            }
            return top;
        }

        /** SPLITS the BLOCK of the k-th ENTRY of one above it: the half for the KEY. */
        private int split(int above, int k, int b, int key) {
            int half = take(now.level[b], b);
            if (half == NONE) {
                return NONE;
            }
            int stays = now.size[b] - now.size[b] / 2;
            layEntries(b, stays, half);
            now.size[b] = stays;
            now.mark(b);
            int firstKey = now.keys[now.slot(half, 0)];
            now.insert(above, k + 1, firstKey, half);
            return firstKey <= key ? half : b;
        }

        private void plantLow(int b, int key, int value) {
            int k = now.find(b, key);
            if (k != NONE) {
                now.set(b, k, value);
                return;
            }
            int ahead = 0;
            for (int i = 0; i < now.size[b]; i++) {
                ahead += now.keys[now.slot(b, i)] < key ? 1 : 0;
            }
            now.insert(b, ahead, key, value);
        }

        // ---- TO REMOVE

        /** REMOVES a KEY, or leaves all as it is if it is not there or a BLOCK can't be TAKEN. */
        boolean tryUproot(int volume, int key) {
            if (now.valueAt(now.roots[volume], key) == NONE) {
                return false;
            }
            inner.become(now);
            boolean done = uproot(volume, key);
            if (!done) {
                now.become(inner);
            }
            return done;
        }

        private boolean uproot(int volume, int key) {
            int depth = now.level[now.roots[volume]];
            int b = owned(now.roots[volume]);
            if (b == NONE) {
                return false;
            }
            now.roots[volume] = b;
            for (int i = 0; i < depth; i++) {
                int k = now.entryFor(b, key);
                int child = owned(now.values[now.slot(b, k)]);
                if (child == NONE) {
                    return false;
                }
                now.set(b, k, child);
                turns[i] = k;
                b = child;
            }
            prune(volume, key, depth);
            lowerRoot(volume);
            return true;
        }

        /** Takes the KEY's ENTRY away, and from there up all that is empty then. */
        private void prune(int volume, int key, int depth) {
            // Not before here, as owned() uses the same row for what falls.
            chain[0] = now.roots[volume];
            for (int i = 0; i < depth; i++) {
                chain[i + 1] = now.values[now.slot(chain[i], turns[i])];
            }
            now.delete(chain[depth], now.find(chain[depth], key));
            for (int i = depth; i >= 0 && now.size[chain[i]] == 0; i--) {
                now.count[chain[i]] = 0;
                if (i > 0) {
                    now.delete(chain[i - 1], turns[i - 1]);
                } else {
                    now.roots[volume] = EMPTY;
                }
            }
        }

        private void lowerRoot(int volume) {
            for (int i = 0; i < MOST_BLOCKS; i++) {
                int root = now.roots[volume];
                if (root == EMPTY || now.level[root] == 0 || now.size[root] != 1) {
                    return;
                }
                int child = now.values[now.slot(root, 0)];
                now.count[child]++;
                now.roots[volume] = child;
                release(root, now.count);
            }
        }

        // ---- BY THE SEED

        private int draw(int m) {
            seed = (int) (1103515245L * seed + 12345L & 0x7fffffffL);
            return m > 0 ? seed / 64 % m : 0;
        }

        /** Once by the seed: whether a KEY was PUT or REMOVED. */
        boolean actBySeed() {
            if (draw(100) < plan.churn) {
                now.save();
            }
            int volumes = now.volumes();
            if (volumes == 0) {
                return false;
            }
            int volume = volumeAt(draw(volumes));
            int what = draw(3);
            int key = draw(40);
            if (what == 2) {
                return tryUproot(volume, key);
            }
            return tryPlant(volume, key, draw(100));
        }

        private int volumeAt(int k) {
            int left = k;
            for (int v = 0; v < MOST_VOLUMES; v++) {
                if (now.isVolume(v)) {
                    if (left == 0) {
                        return v;
                    }
                    left--;
                }
            }
            return 0;
        }
    }

    /** The BLOCKS of a tree, LEVEL by LEVEL from its ROOT on, and its KEYS, rising. */
    private static final class Walk {
        private final int[] row = new int[MOST_BLOCKS];
        private int length;
        final int[] keys = new int[MOST_SLOTS];
        final int[] values = new int[MOST_SLOTS];

        /** The BLOCKS from one on, a bit each. */
        long tree(State state, int root) {
            length = 0;
            if (root < 0) {
                return 0L;
            }
            row[0] = root;
            length = 1;
            long found = 1L << root;
            for (int i = 0; i < length && i < MOST_BLOCKS; i++) {
                int entries = state.level[row[i]] > 0 ? state.size[row[i]] : 0;
                for (int k = 0; k < entries && length < MOST_BLOCKS; k++) {
                    row[length] = state.values[state.slot(row[i], k)];
                    found |= 1L << row[length];
                    length++;
                }
            }
            return found;
        }

        /** Lays the KEYS under a BLOCK ready, with their VALUES: how many. */
        int gather(State state, int root) {
            tree(state, root);
            int found = 0;
            for (int i = 0; i < length; i++) {
                int entries = state.level[row[i]] == 0 ? state.size[row[i]] : 0;
                for (int k = 0; k < entries && found < MOST_SLOTS; k++) {
                    keys[found] = state.keys[state.slot(row[i], k)];
                    values[found] = state.values[state.slot(row[i], k)];
                    found++;
                }
            }
            return found;
        }
    }

    /** What is KEPT, and what can be undone. */
    private static final class History {
        /** As many more than are told as undoing can bring back. */
        private static final int MOST_KEPT = MOST_TOLD + MOST_UNDONE;

        private final int[] acts = new int[MOST_KEPT];
        private final int[] volumes = new int[MOST_KEPT];
        private final int[] wrote = new int[MOST_KEPT];
        private int rows;
        private final State[] past = new State[MOST_UNDONE];
        int depth;

        void clear() {
            rows = 0;
            depth = 0;
        }

        int toldRows() {
            return Math.min(rows, MOST_TOLD);
        }

        int toldOf(int k, int what) {
            if (k < 0 || k >= toldRows()) {
                return NONE;
            }
            int row = rows - toldRows() + k;
            switch (what) {
                case 0: return acts[row];
                case 1: return volumes[row];
                case 2: return wrote[row];
                default: return NONE;
            }
        }

        void keep(int act, int volume, int blocks) {
            if (rows == MOST_KEPT) {
                rows--;
                System.arraycopy(acts, 1, acts, 0, rows);
                System.arraycopy(volumes, 1, volumes, 0, rows);
                System.arraycopy(wrote, 1, wrote, 0, rows);
            }
            acts[rows] = act;
            volumes[rows] = volume;
            wrote[rows] = blocks;
            rows++;
        }

        /** Keeps how all was ahead of an ACT, and gives a state that is no longer needed in exchange. */
        State remember(State before) {
            if (depth == MOST_UNDONE) {
                State oldest = past[0];
                for (int i = 1; i < MOST_UNDONE; i++) {
                    past[i - 1] = past[i];
                }
                past[MOST_UNDONE - 1] = before;
                return oldest == null ? new State() : oldest;
            }
            State unused = past[depth];
            past[depth] = before;
            depth++;
            return unused == null ? new State() : unused;
        }

        /** How all was ahead of the latest ACT, which is KEPT no more; null if none can be undone. */
        State forget() {
            if (depth == 0 || rows == 0) {
                return null;
            }
            depth--;
            rows--;
            return past[depth];
        }
    }

    /** What is SEEN. */
    private static final class Sight {
        private static final int ROW_BYTES = 4;

        int rows;
        private final int[] keys = new int[MOST_ROWS];
        private final int[] values = new int[MOST_ROWS];
        /** The VOLUMES that FIT, by number, as findFits() found them. */
        final int[] fit = new int[MOST_VOLUMES];
        private int fits;
        private final int[] readings = new int[MOST_VOLUMES];

        boolean take(Tape tape) {
            int told = tape.length / ROW_BYTES;
            if (tape.length % ROW_BYTES != 0 || told < 1 || told > MOST_ROWS) {
                return false;
            }
            for (int i = 0; i < told; i++) {
                if (tape.pair(i * ROW_BYTES) > MOST_KEY || tape.pair(i * ROW_BYTES + 2) > NO_KEY) {
                    return false;
                }
            }
            for (int i = 0; i < told; i++) {
                keys[i] = tape.pair(i * ROW_BYTES);
                values[i] = tape.pair(i * ROW_BYTES + 2);
            }
            rows = told;
            return true;
        }

        /** Lays the VOLUMES that FIT ready: how many. */
        int findFits(State state) {
            fits = 0;
            for (int v = 0; v < MOST_VOLUMES; v++) {
                if (state.isVolume(v) && agrees(state, v)) {
                    fit[fits] = v;
                    fits++;
                }
            }
            return fits;
        }

        private boolean agrees(State state, int volume) {
            for (int i = 0; i < rows; i++) {
                if (reading(state, volume, keys[i]) != values[i]) {
                    return false;
                }
            }
            return true;
        }

        /** How many of the FITS found are left at the most when a KEY is read. */
        int mostLeft(State state, int key) {
            int most = 0;
            for (int i = 0; i < fits; i++) {
                readings[i] = reading(state, fit[i], key);
                int like = 0;
                for (int j = 0; j <= i; j++) {
                    like += readings[j] == readings[i] ? 1 : 0;
                }
                most = Math.max(most, like);
            }
            return most;
        }

        private static int reading(State state, int volume, int key) {
            int value = state.valueAt(state.roots[volume], key);
            return value == NONE ? NO_KEY : value;
        }
    }

    /** AN IMAGE, written and read. */
    private static final class Picture {
        private static final int EMPTY_BYTE = 254;
        private static final int ABSENT_BYTE = 255;
        private static final int HEAD_BYTES = 3 + 2 * MOST_VOLUMES;
        private static final int BLOCK_BYTES = 4 + 4 * MOST_ENTRIES;

        final int[] bytes = new int[HEAD_BYTES + MOST_BLOCKS * BLOCK_BYTES + 1];
        int size;
        private int at;
        /** The least and the greatest KEY under each BLOCK; how many refer to it. */
        private final int[] lowest = new int[MOST_BLOCKS];
        private final int[] highest = new int[MOST_BLOCKS];
        private final int[] refs = new int[MOST_BLOCKS];

        int draw(State state) {
            size = 0;
            add(state.spent >>> 16);
            addPair(state.spent & 0xffff);
            for (int v = 0; v < MOST_VOLUMES; v++) {
                add(rootByte(state.roots[v]));
                add(rootByte(state.savedRoots[v]));
            }
            for (int b = 0; b < state.blocks; b++) {
                add(state.count[b]);
                add(state.saved[b]);
                if (!state.isFree(b)) {
                    drawBlock(state, b);
                }
            }
            int sum = seal(bytes, size);
            add(sum);
            return size;
        }

        private void drawBlock(State state, int b) {
            add(state.level[b]);
            add(state.size[b]);
            for (int k = 0; k < state.size[b]; k++) {
                addPair(state.keys[state.slot(b, k)]);
                addPair(state.values[state.slot(b, k)]);
            }
        }

        private void add(int value) {
            if (size < bytes.length) {
                bytes[size] = value & 255;
                size++;
            }
        }

        private void addPair(int value) {
            add(value >>> 8);
            add(value);
        }

        private static int rootByte(int root) {
            if (root == ABSENT) {
                return ABSENT_BYTE;
            }
            return root == EMPTY ? EMPTY_BYTE : root;
        }

        private static int seal(int[] bytes, int length) {
            int c = 157;
            for (int i = 0; i < length && i < bytes.length; i++) {
                c = (3 * c + bytes[i]) % 251;
            }
            return c;
        }

        /** Reads the tape into a state; false if it is no image of a store of so many BLOCKS and ENTRIES. */
        boolean load(Tape tape, State state, int blocks, int most) {
            int body = tape.length - 1;
            if (body < HEAD_BYTES || tape.at(body) != seal(tape.bytes, body)) {
                return false;
            }
            state.clear(blocks);
            at = 0;
            if (!loadHead(tape, state)) {
                return false;
            }
            for (int b = 0; b < blocks; b++) {
                if (!loadBlock(tape, state, b, most)) {
                    return false;
                }
            }
            return at == body && isSound(state);
        }

        private int next(Tape tape) {
            int value = tape.at(at);
            at++;
            return value;
        }

        private int nextPair(Tape tape) {
            int high = next(tape);
            return high * 256 + next(tape);
        }

        private boolean loadHead(Tape tape, State state) {
            int high = next(tape);
            state.spent = high * 65536 + nextPair(tape);
            boolean good = state.spent <= MOST_COST;
            for (int v = 0; v < MOST_VOLUMES; v++) {
                state.roots[v] = rootOf(next(tape));
                state.savedRoots[v] = rootOf(next(tape));
                good = good && state.roots[v] < state.blocks && state.savedRoots[v] < state.blocks;
            }
            return good;
        }

        private static int rootOf(int value) {
            if (value == ABSENT_BYTE) {
                return ABSENT;
            }
            return value == EMPTY_BYTE ? EMPTY : value;
        }

        /** Behind the tape's end next() tells NONE, and where the image ends is looked at last. */
        private boolean loadBlock(Tape tape, State state, int b, int most) {
            state.count[b] = next(tape);
            state.saved[b] = next(tape);
            if (state.count[b] < 0 || state.saved[b] < 0) {
                return false;
            }
            if (state.isFree(b)) {
                return true;
            }
            state.level[b] = next(tape);
            state.size[b] = next(tape);
            if (state.level[b] < 0 || state.level[b] >= MOST_BLOCKS || state.size[b] < 1 || state.size[b] > most) {
                return false;
            }
            boolean good = true;
            for (int k = 0; k < state.size[b]; k++) {
                int key = nextPair(tape);
                int value = nextPair(tape);
                state.keys[state.slot(b, k)] = key;
                state.values[state.slot(b, k)] = value;
                good = good && isKey(key) && isKey(value);
            }
            return good;
        }

        private boolean isSound(State state) {
            for (int level = 0; level < MOST_BLOCKS; level++) {
                for (int b = 0; b < state.blocks; b++) {
                    if (!state.isFree(b) && state.level[b] == level && !isSoundBlock(state, b)) {
                        return false;
                    }
                }
            }
            return refsAre(state, state.count, state.roots) && refsAre(state, state.saved, state.savedRoots);
        }

        /** Those of the LEVELS below have been looked at already. */
        private boolean isSoundBlock(State state, int b) {
            int last = state.size[b] - 1;
            int firstBound = state.level[b] == 0 ? 0 : 1;
            for (int k = firstBound; k < last; k++) {
                if (state.keys[state.slot(b, k)] >= state.keys[state.slot(b, k + 1)]) {
                    return false;
                }
            }
            if (state.level[b] == 0) {
                lowest[b] = state.keys[state.slot(b, 0)];
                highest[b] = state.keys[state.slot(b, last)];
                return true;
            }
            for (int k = 0; k <= last; k++) {
                if (!isSoundChild(state, b, k)) {
                    return false;
                }
            }
            lowest[b] = lowest[state.values[state.slot(b, 0)]];
            highest[b] = highest[state.values[state.slot(b, last)]];
            return true;
        }

        private boolean isSoundChild(State state, int b, int k) {
            int child = state.values[state.slot(b, k)];
            if (!state.isBlock(child) || state.isFree(child) || state.level[child] != state.level[b] - 1) {
                return false;
            }
            if (k > 0 && lowest[child] < state.keys[state.slot(b, k)]) {
                return false;
            }
            return k + 1 >= state.size[b] || highest[child] < state.keys[state.slot(b, k + 1)];
        }

        /** Whether COUNTS are as the ENTRIES of those in use by them and the ROOTS make them. */
        private boolean refsAre(State state, int[] count, int[] roots) {
            for (int b = 0; b < state.blocks; b++) {
                refs[b] = 0;
            }
            for (int v = 0; v < MOST_VOLUMES; v++) {
                if (roots[v] >= 0) {
                    refs[roots[v]]++;
                }
            }
            for (int b = 0; b < state.blocks; b++) {
                int entries = count[b] > 0 && state.level[b] > 0 ? state.size[b] : 0;
                for (int k = 0; k < entries; k++) {
                    refs[state.values[state.slot(b, k)]]++;
                }
            }
            for (int b = 0; b < state.blocks; b++) {
                if (refs[b] != count[b]) {
                    return false;
                }
            }
            return true;
        }
    }
}
