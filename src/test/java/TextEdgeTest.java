/**
 * Part I of the document, sentence by sentence: each that names an edge is tried on both of its sides.
 * The label of a check begins with the words of the document that it holds the class to.
 */
public final class TextEdgeTest {
    private static final int NONE = CloneVolumes.NONE;
    private static final String HEAD = "blocks 9 room 3;";
    private static final String ONE = HEAD + "volume v;";
    private static final String[] OWN = {"blocks", "room", "volume", "clone", "of", "put", "remove", "picks", "splits",
        "costs", "churn", "block", "from", "level", "entries", "number", "count", "fresh", "saved", "refs", "key", "or",
        "and", "not", "all", "min", "max"};

    private TextEdgeTest() {
    }

    public static void main(String[] args) {
        statements();
        blocksAndRoom();
        theFirstAlone();
        volumes();
        clones();
        keysAndValues();
        oneEach();
        churn();
        whatCantBe();
        behindTheText();
        grammar();
        parts();
        from();
        division();
        bounds();
        without();
        names();
        blanks();
        wordsWhole();
        seventhLetter();
        fifthDigit();
        endsTooSoon();
        numbersThatCantBe();
        openAtOnce();
        theFirstAlong();
        Check.close();
    }

    private static CloneVolumes made(String text) {
        CloneVolumes x = new CloneVolumes();
        Check.due("store() of " + text, Check.store(x, text) > 0, true);
        return x;
    }

    private static void good(String words, String text, int statements) {
        CloneVolumes x = new CloneVolumes();
        Check.due(words + ": store() of " + text, Check.store(x, text), statements);
        Check.due(words + ": fault(0) of " + text, x.fault(0), 0);
        Check.due(words + ": fault(1) of " + text, x.fault(1), NONE);
    }

    private static void bad(String words, String text, int kind, int place) {
        CloneVolumes x = new CloneVolumes();
        Check.due(words + ": store() of " + text, Check.store(x, text), NONE);
        Check.due(words + ": fault(0) of " + text, x.fault(0), kind);
        Check.due(words + ": fault(1) of " + text, x.fault(1), place);
    }

    private static void badAsked(String words, String text, int kind, int place) {
        CloneVolumes x = made(HEAD);
        Check.due(words + ": ask() of " + text, Check.ask(x, text), CloneVolumes.NOTHING);
        Check.due(words + ": fault(0) of " + text, x.fault(0), kind);
        Check.due(words + ": fault(1) of " + text, x.fault(1), place);
    }

    /** What a SUM without words gives. */
    private static void gives(String words, String sum, long want) {
        CloneVolumes x = made(HEAD);
        Check.due(words + ": most " + sum, Check.ask(x, "most " + sum), want);
        Check.due(words + ": least " + sum, Check.ask(x, "least " + sum), want);
    }

    /** Whether a TEST without words holds: for all nine BLOCKS, or for none. */
    private static void holds(String words, String test, boolean want) {
        Check.due(words + ": often " + test, Check.ask(made(HEAD), "often " + test), want ? 9 : 0);
    }

    private static String times(int n, String text) {
        StringBuilder all = new StringBuilder();
        for (int i = 0; i < n; i++) {
            all.append(text);
        }
        return all.toString();
    }

    private static void statements() {
        String words = "60 at most";
        good(words, HEAD, 1);
        good(words, HEAD + times(58, "churn 1;"), 59);
        String sixty = HEAD + times(59, "churn 1;");
        good(words, sixty, 60);
        good(words, sixty + "\n  \n", 60);
        words = "a 61st STATEMENT (whatever stands there), at its first byte";
        for (String more : new String[] {"churn 1;", "churn", ";", "?", "7", "blocks 7", "\u00ff", "volume volume"}) {
            bad(words, sixty + more, 5, sixty.length());
            bad(words, sixty + " \n" + more, 5, sixty.length() + 2);
        }
        words = "{ STATEMENT ; }";
        bad(words, sixty.substring(0, sixty.length() - 1), 1, sixty.length() - 1);
        bad(words, HEAD + ";", 1, HEAD.length());
    }

    private static void blocksAndRoom() {
        for (int n = 0; n <= 120; n++) {
            String text = "blocks " + n + " room 4;";
            if (n >= 8 && n <= 48) {
                good("8 .. 48 BLOCKS", text, 1);
                Check.due("8 .. 48 BLOCKS: has(0)", made(text).has(0), n);
                Check.due("8 .. 48 BLOCKS: the last", made(text).block(n - 1, 0), 0);
                Check.due("8 .. 48 BLOCKS: no more", made(text).block(n, 0), NONE);
            } else {
                bad("8 .. 48 BLOCKS", text, 2, 7);
            }
        }
        for (int n = 0; n <= 20; n++) {
            String text = "blocks 8 room " + n + ";";
            if (n >= 3 && n <= 6) {
                good("3 .. 6 ENTRIES of one", text, 1);
                Check.due("3 .. 6 ENTRIES of one: has(9)", made(text).has(9), n);
            } else {
                bad("3 .. 6 ENTRIES of one", text, 2, 14);
            }
        }
        bad("8 .. 48 BLOCKS", "blocks 9999 room 3;", 2, 7);
        bad("3 .. 6 ENTRIES of one", "blocks 8 room 9999;", 2, 14);
    }

    private static void theFirstAlone() {
        String words = "the first STATEMENT, and it alone";
        for (String other : new String[] {"volume v;", "clone v of w;", "put v 1 1;", "remove v 1;", "picks 1;", "splits all;",
            "costs 1;", "churn 1;"}) {
            bad(words, other + HEAD, 1, 0);
        }
        bad(words, HEAD + HEAD, 1, HEAD.length());
        bad(words, ONE + HEAD, 1, ONE.length());
    }

    private static void volumes() {
        CloneVolumes x = made(ONE);
        Check.due("a new VOLUME, empty: there", x.has(1), 1);
        Check.due("a new VOLUME, empty: no ROOT", x.volume(0, 0), NONE);
        Check.due("a new VOLUME, empty: no KEYS", x.volume(0, 1), 0);
        Check.due("no VOLUME is told", made(HEAD).has(1), 0);
        StringBuilder eight = new StringBuilder(HEAD);
        for (char c = 'h'; c >= 'a'; c--) {
            good("8 VOLUMES in all", eight.toString(), 1 + 'h' - c);
            eight.append(c % 2 == 0 ? "volume " + c + ";" : "clone " + c + " of h;");
        }
        x = made(eight.toString());
        Check.due("8 VOLUMES in all", x.has(1), 8);
        for (int v = 0; v < 8; v++) {
            Check.due("numbers as they are told: " + v, x.letter(v, 0), 8 - v);
        }
        for (String ninth : new String[] {"volume i;", "clone i of h;", "volume", "clone h", "volume 7", "clone\n?"}) {
            bad("a 9th VOLUME, at its first byte", eight + " " + ninth, 5, eight.length() + 1);
        }
        good("8 VOLUMES in all", eight + "put a 1 1;", 10);
    }

    private static void clones() {
        String words = "COPIED from one that is told ahead";
        CloneVolumes x = made(ONE + "put v 1 1;clone w of v;put v 2 2;");
        Check.due(words + ": as it is then", x.volume(1, 1), 1);
        Check.due(words + ": shares its BLOCK", x.read(1, 1), 1);
        x = made(ONE + "clone w of v;put v 2 2;");
        Check.due(words + ": an empty one", x.volume(1, 0), NONE);
        good(words, ONE + "clone w of v;clone u of w;", 4);
        bad(words, ONE + "clone w of u;volume u;", 3, ONE.length() + 11);
        bad(words, ONE + "clone w of w;", 3, ONE.length() + 11);
        bad(words, ONE + "clone w of vv;", 3, ONE.length() + 11);
        bad("a NAME to be given that is there already", ONE + "clone v of v;", 3, ONE.length() + 6);
        bad("a NAME to be given that is there already", ONE + "volume v;", 3, ONE.length() + 7);
    }

    private static void keysAndValues() {
        String words = "a KEY, a VALUE, 0 .. 999 each";
        CloneVolumes x = made(ONE + "put v 0 999;put v 999 0;");
        Check.due(words, x.read(0, 0), 999);
        Check.due(words, x.read(0, 999), 0);
        bad(words, ONE + "put v 1000 1;", 2, ONE.length() + 6);
        bad(words, ONE + "put v 1 1000;", 2, ONE.length() + 8);
        words = "remove NAME N (a KEY)";
        x = made(ONE + "put v 0 1;put v 999 1;put v 7 7;remove v 0;remove v 999;");
        Check.due(words, x.volume(0, 1), 1);
        Check.due(words, x.read(0, 7), 7);
        bad(words, ONE + "remove v 1000;", 2, ONE.length() + 9);
        bad("put NAME N N (a VOLUME)", ONE + "put w 1 1;", 3, ONE.length() + 4);
        bad("remove NAME N (a VOLUME)", ONE + "remove w 1;", 3, ONE.length() + 7);
        bad("put NAME N N (a VOLUME told ahead)", ONE + "put w 1 1;volume w;", 3, ONE.length() + 4);
    }

    private static void oneEach() {
        String[] all = {"picks 1;", "splits all;", "costs 1;"};
        for (String one : all) {
            for (String other : all) {
                if (one.equals(other)) {
                    bad("picks SUM, splits TEST, costs SUM (one each)", ONE + one + one, 5, ONE.length() + one.length());
                    bad("a second one, at its first byte", ONE + one + "churn 1; " + one.substring(0, 6), 5,
                        ONE.length() + one.length() + 9);
                } else {
                    good("picks SUM, splits TEST, costs SUM (one each)", ONE + one + other, 4);
                }
            }
        }
    }

    /** Whether by the seed there is a CHECKPOINT, from a seed of which the first DRAW of 100 is told. */
    private static boolean churns(String churn, int drawn) {
        CloneVolumes x = made(ONE + churn);
        x.put(0, 500, 1);
        int seed = 0;
        while ((1103515245L * seed + 12345L) % (1L << 31) / 64 % 100 != drawn) {
            seed++;
        }
        x.seed(seed);
        x.chance(1);
        return x.block(0, 1) == 1;
    }

    private static void churn() {
        good("0 .. 100", HEAD + "churn 0;", 2);
        good("0 .. 100", HEAD + "churn 100;", 2);
        bad("0 .. 100", HEAD + "churn 101;", 2, HEAD.length() + 6);
        bad("0 .. 100", HEAD + "churn 9999;", 2, HEAD.length() + 6);
        for (int drawn = 0; drawn < 100; drawn++) {
            Check.due("0 without: " + drawn, churns("", drawn), false);
            Check.due("churn 0: " + drawn, churns("churn 0;", drawn), false);
            Check.due("churn 100: " + drawn, churns("churn 100;", drawn), true);
            Check.due("the last one counts: " + drawn, churns("churn 100;churn 0;", drawn), false);
            Check.due("the last one counts: " + drawn, churns("churn 0;churn 1;churn 100;", drawn), true);
            Check.due("a DRAW of 100: below churn there is a CHECKPOINT", churns("churn " + (drawn + 1) + ";", drawn), true);
            Check.due("a DRAW of 100: not below churn there is none", churns("churn " + drawn + ";", drawn), false);
        }
        CloneVolumes x = made(ONE + "churn 100;");
        Check.store(x, ONE);
        x.put(0, 500, 1);
        x.chance(40);
        Check.due("0 without: a new STORE has no churn of an old one", x.block(0, 1), 0);
    }

    private static void whatCantBe() {
        String words = "what can't be is not done";
        StringBuilder text = new StringBuilder("blocks 8 room 3;");
        for (char c = 'a'; c <= 'h'; c++) {
            text.append("volume ").append(c).append(";put ").append(c).append(" 10 1;");
        }
        // All eight BLOCKS are in use: a fourth KEY of a would need two more, the last KEYS need none.
        CloneVolumes x = made(text + "put a 20 2;put a 30 3;put a 40 4;put a 20 9;remove a 40;remove b 5;put b 50 5;");
        Check.due(words + ": a PUT", x.read(0, 40), NONE);
        Check.due(words + ": it leaves the rest", x.volume(0, 1), 3);
        Check.due(words + ": as one BLOCK", x.volume(0, 3), 1);
        Check.due(words + ": a PUT of a KEY that is there SPLITS too, so it can't be", x.read(0, 20), 2);
        Check.due(words + ": those behind it are", x.read(1, 50), 5);
        Check.due(words + ": no BLOCK is more in use", x.has(2), 8);
        x = made(ONE + "remove v 5;put v 5 1;");
        Check.due("one STATEMENT after the other: a REMOVE ahead of the PUT", x.read(0, 5), 1);
        x = made(ONE + "put v 5 1;remove v 5;");
        Check.due("one STATEMENT after the other: a REMOVE behind the PUT", x.volume(0, 0), NONE);
    }

    private static void behindTheText() {
        CloneVolumes x = made(ONE + "put v 1 1;put v 2 2;costs 9;splits level=0 and entries>1;picks 0-block;put v 3 3;");
        Check.due("by all that is told of picks", x.path(0, 1, 1), 8);
        Check.due("by all that is told of picks: TAKEN first, the one above", x.volume(0, 0), 7);
        Check.due("by all that is told of splits", x.volume(0, 2), 2);
        Check.due("then comes a CHECKPOINT: nothing is FRESH", Check.ask(x, "total fresh"), 0);
        Check.due("then comes a CHECKPOINT: COUNTS", x.block(8, 1), 1);
        Check.due("then comes a CHECKPOINT: nothing is HELD", x.has(3), 0);
        Check.due("the COST is 0", x.has(5), 0);
        Check.due("nothing is KEPT", x.has(6), 0);
        Check.due("nothing can be undone", x.has(8), 0);
        Check.due("costs from then on", x.put(0, 1, 4), 2);
        Check.due("costs from then on", x.has(5), 18);
    }

    private static void grammar() {
        holds("BOTH { or BOTH }", "1=2 or 1=1", true);
        holds("BOTH { or BOTH }", "1=1 or 1=2", true);
        holds("BOTH { or BOTH }", "1=2 or 1=2 or 1=2", false);
        holds("FACT { and FACT }", "1=1 and 1=2", false);
        holds("FACT { and FACT }", "1=2 and 1=1", false);
        holds("FACT { and FACT }", "1=1 and 1=1 and 1=1", true);
        holds("and ahead of or", "1=1 or 1=1 and 1=2", true);
        holds("and ahead of or", "1=2 and 1=1 or 1=1", true);
        holds("[ TEST ]", "[1=1 or 1=1] and 1=2", false);
        holds("not FACT", "not 1=2", true);
        holds("not FACT", "not not 1=2", false);
        holds("not FACT, not the rest of BOTH", "not 1=2 and 1=2", false);
        holds("not FACT, not the rest of TEST", "not 1=1 or 1=1", true);
        holds("not [ TEST ]", "not[1=2 and 1=2]", true);
        holds("all", "all", true);
        holds("not all", "not all", false);
        for (int left = 1; left <= 3; left++) {
            holds("SIGN <", left + "<2", left < 2);
            holds("SIGN >", left + ">2", left > 2);
            holds("SIGN =", left + "=2", left == 2);
        }
        gives("PRODUCT ahead of + and -", "2+3*4", 14);
        gives("PRODUCT ahead of + and -", "20-12/4", 17);
        gives("( SUM )", "(2+3)*4", 20);
        gives("All from the left on", "20-3-4", 13);
        gives("All from the left on", "20-3+4", 21);
        gives("All from the left on", "100/5/2", 10);
        gives("All from the left on", "7/2*2", 6);
        gives("All from the left on", "2*7/2", 7);
        for (int one = 1; one <= 3; one++) {
            gives("min ( SUM , SUM )", "min(" + one + ",1+1)", Math.min(one, 2));
            gives("max ( SUM , SUM )", "max(1+1," + one + ")", Math.max(one, 2));
        }
        gives("min, max below 0", "min(0-1,0-2)*max(0-3,0-4)", 6);
    }

    private static void parts() {
        String[] words = {"level", "block", "from", "entries", "number", "count", "fresh", "saved", "refs 1", "key 1", "v", "blocks"};
        String inPicks = "level block from";
        String inSplits = "level entries";
        String inCosts = "level block entries";
        String asked = "level entries number count fresh saved refs 1 key 1";
        for (String word : words) {
            part("picks ", word, ";", inPicks.contains(word) && !word.equals("v"));
            part("costs ", word, ";", inCosts.contains(word) && !word.equals("v"));
            part("splits ", word, "<1;", inSplits.contains(word) && !word.equals("v"));
            if (asked.contains(word) && !word.equals("v")) {
                Check.due("PART in a QUESTION: " + word, Check.ask(made(ONE), "most " + word) >= 0, true);
            } else {
                badAsked("PART in a QUESTION: " + word, "most " + word, 1, 5);
            }
        }
    }

    private static void part(String head, String word, String tail, boolean may) {
        if (may) {
            good("PART of " + head + word, ONE + head + word + tail, 3);
        } else {
            bad("PART of " + head + word, ONE + head + word + tail, 1, ONE.length() + head.length());
        }
    }

    private static void from() {
        // The SUM is least where from tells 40 more than the number: 8, if it is 48.
        CloneVolumes x = made("blocks 20 room 3;volume v;picks max(block+40-from,from-40-block);put v 1 1;");
        Check.due("48 without one", x.volume(0, 0), 8);
        x = made("blocks 20 room 3;volume v;picks max(block+41-from,from-41-block);put v 1 1;");
        Check.due("48 without one", x.volume(0, 0), 7);
        // At LEVEL 0 the nearest to half of what from tells, above it the first FREE one.
        x = made("blocks 20 room 3;volume v;picks max(block-from/2,from/2-block)*(1-level);put v 1 1;put v 2 2;put v 3 3;put v 4 4;");
        Check.due("48 without one", x.path(0, 1, 1), 19);
        Check.due("the LEVEL of the BLOCK", x.volume(0, 0), 0);
        Check.due("the number of the one that is split", x.path(0, 4, 1), 9);
        x.put(0, 4, 9);
        Check.due("the number of the one of which it is to be a copy", x.path(0, 4, 1), 4);
    }

    private static void division() {
        String words = "/ gives the greatest whole number not above";
        gives(words, "7/2", 3);
        gives(words, "(0-7)/2", -4);
        gives(words, "7/(0-2)", -4);
        gives(words, "(0-7)/(0-2)", 3);
        gives(words, "(0-8)/2", -4);
        gives(words, "8/(0-2)", -4);
        gives(words, "1/9999", 0);
        gives(words, "(0-1)/9999", -1);
        gives(words, "0/(0-5)", 0);
        gives("by 0 it gives 0", "7/0", 0);
        gives("by 0 it gives 0", "(0-7)/0", 0);
        gives("by 0 it gives 0", "0/0", 0);
        gives("by 0 it gives 0", "7/(3-3)+1", 1);
    }

    private static void bounds() {
        String words = "each sum above 10 to the 6 is that";
        gives(words, "9999*100+99", 999999);
        gives(words, "9999*100+100", 1000000);
        gives(words, "9999*100+101", 1000000);
        gives(words, "1000*1000+9999-1", 999999);
        words = "each product above 10 to the 6 is that";
        gives(words, "1000*1000", 1000000);
        gives(words, "1001*1000", 1000000);
        gives(words, "9999*9999*0", 0);
        gives(words, "9999*9999/1000", 1000);
        gives(words, "9999*9999*9999*9999-1", 999999);
        gives(words, "(0-9999*9999)*(0-9999*9999)", 1000000);
        words = "each difference above 10 to the 6 is that";
        gives(words, "1000*1000-(0-1)-1", 999999);
        words = "below -10 to the 6 likewise";
        gives(words, "0-9999*100-99", -999999);
        gives(words, "0-9999*100-100", -1000000);
        gives(words, "0-9999*100-101", -1000000);
        gives(words, "0-1000*1000-9999+1", -999999);
        gives(words, "(0-1001)*1000+1", -999999);
        gives(words, "1000*(0-1001)+1", -999999);
        gives(words, "(0-1000*1000)+(0-1)+1", -999999);
        gives(words, "9999*9999*(0-9999*9999)", -1000000);
    }

    private static void without() {
        CloneVolumes x = made("blocks 20 room 6;volume v;put v 1 1;put v 2 2;put v 3 3;put v 4 4;put v 5 5;put v 6 6;volume w;"
            + "put w 1 1;");
        Check.due("Without: picks is block", x.volume(0, 0), 0);
        Check.due("Without: picks is block", x.volume(1, 0), 1);
        Check.due("no TEST of splits holds", x.volume(0, 3), 1);
        x.put(0, 7, 7);
        // The copy of the ROOT, the one above it, the half.
        Check.due("costs is 1", x.has(5), 3);
        x = made("blocks 20 room 6;volume v;picks 0-block;splits all;costs 7;");
        Check.store(x, "blocks 20 room 6;volume v;put v 1 1;put v 2 2;put v 3 3;");
        Check.due("Without: no picks of an old STORE", x.volume(0, 0), 0);
        Check.due("Without: no splits of an old STORE", x.volume(0, 3), 1);
        x.put(0, 1, 2);
        Check.due("Without: no costs of an old STORE", x.has(5), 1);
    }

    private static void names() {
        for (String name : new String[] {"a", "z", "ab", "abcdef", "zzzzzz", "first", "last", "often", "total", "most", "least",
            "bloc", "blockx", "keys", "ke", "ofa", "o", "ally", "al", "roomy", "minmax", "entrie"}) {
            CloneVolumes x = made(HEAD + "volume " + name + ";put " + name + " 1 1;");
            for (int k = 0; k < 6; k++) {
                Check.due("NAMES: 1 to 6 letters: " + name, x.letter(0, k), k < name.length() ? name.charAt(k) - 'a' + 1 : 0);
            }
            Check.due("NAMES: 1 to 6 letters: " + name, x.read(0, 1), 1);
        }
        for (String word : OWN) {
            String words = "where a NAME is asked, an OWN WORD at its first byte: " + word;
            bad(words, ONE + "volume " + word + ";", 1, ONE.length() + 7);
            bad(words, ONE + "clone " + word + " of v;", 1, ONE.length() + 6);
            bad(words, ONE + "clone w of " + word + ";", 1, ONE.length() + 11);
            bad(words, ONE + "put " + word + " 1 1;", 1, ONE.length() + 4);
            bad(words, ONE + "remove " + word + " 1;", 1, ONE.length() + 7);
        }
        String all = HEAD + "volume a;volume aa;volume abcdef;volume abcdeg;volume b;volume ba;volume ab;volume zbcdef;";
        good("unlike ones", all, 9);
        CloneVolumes x = made(all + "put ba 1 7;put abcdeg 1 8;");
        Check.due("unlike ones", x.read(5, 1), 7);
        Check.due("unlike ones", x.read(3, 1), 8);
        for (String name : new String[] {"V", "1", "_", "vV", "v_"}) {
            int place = HEAD.length() + 7 + (name.startsWith("v") ? 1 : 0);
            bad("NAMES: letters", HEAD + "volume " + name + ";", 1, place);
        }
    }

    private static void blanks() {
        String words = "Blanks (10, 32) are where one likes";
        good(words, "\n \nblocks \n 9\nroom  3 \n;\n\nvolume\nv\n;put v\n1 1 ; picks\n( 1 + 2 )\n* min ( 1 , 2 ) ;  ", 4);
        good(words, "blocks 9 room 3;volume v;splits[1<2]and not[all]or(1)=(2);", 3);
        for (int c = 0; c < 256; c++) {
            String text = "blocks" + (char) c + "9 room 3;";
            if (c == 10 || c == 32) {
                good(words, text, 1);
            } else if (c >= 'a' && c <= 'z') {
                bad(words + ": byte " + c, text, 1, 0);
            } else {
                bad(words + ": byte " + c, text, 1, 6);
            }
        }
        words = "words and numbers side by side need one";
        bad(words, "blocks9 room 3;", 1, 6);
        bad(words, "blocks 9room 3;", 1, 8);
        bad(words, "blocks 9 room3;", 1, 13);
        bad(words, ONE + "put v1 1;", 1, ONE.length() + 5);
        bad(words, ONE + "volume w5;", 1, ONE.length() + 8);
        bad(words, ONE + "churn5;", 1, ONE.length() + 5);
        bad(words, ONE + "splits 1<2and all;", 1, ONE.length() + 10);
        bad(words, ONE + "splits not1=2;", 1, ONE.length() + 10);
        bad(words, ONE + "picks 2level;", 1, ONE.length() + 7);
        badAsked(words, "total7", 1, 5);
        badAsked(words, "total refs7", 1, 10);
        badAsked(words, "total 7number", 1, 7);
    }

    private static void wordsWhole() {
        String words = "words and numbers whole, at their first byte";
        bad(words, "block 9 room 3;", 1, 0);
        bad(words, "blocksx 9 room 3;", 1, 0);
        bad(words, "blocks 9 roo 3;", 1, 9);
        bad(words, "blocks 9 roomroom 3;", 1, 9);
        bad(words, "blocks 9 12345 3;", 1, 9);
        bad(words, "blocks nine room 3;", 1, 7);
        bad(words, ONE + "volum w;", 1, ONE.length());
        bad(words, ONE + "clone w off v;", 1, ONE.length() + 8);
        bad(words, ONE + "picks levels;", 1, ONE.length() + 6);
        bad(words, ONE + "picks 1 234;", 1, ONE.length() + 8);
        bad(words, ONE + "picks 1 23456;", 1, ONE.length() + 8);
        bad(words, ONE + "splits all orr all;", 1, ONE.length() + 11);
        bad(words, ONE + "splits all;x", 1, ONE.length() + 11);
        badAsked("an unknown word at its first byte", "totals 1", 1, 0);
        badAsked("an unknown word at its first byte", " tota", 1, 1);
        badAsked("an unknown word at its first byte", "total numbers", 1, 6);
        badAsked("an unknown word at its first byte", "total 1+x", 1, 8);
        badAsked("what stands behind it, too", "total 1 number", 1, 8);
        badAsked("what stands behind it, too", "total 1;", 1, 7);
        badAsked("what stands behind it, too", "first all  )", 1, 11);
        badAsked("what stands behind it, too", "total 1 23456", 1, 8);
        badAsked("a QUESTION begins with one of six words", "blocks 1", 1, 0);
        badAsked("a QUESTION begins with one of six words", "1", 1, 0);
        badAsked("a QUESTION begins with one of six words", "all", 1, 0);
    }

    private static void seventhLetter() {
        String words = "where a NAME is asked, a 7th letter at itself";
        String six = HEAD + "volume abcdef;";
        bad(words, HEAD + "volume abcdefg;", 1, HEAD.length() + 13);
        bad(words, HEAD + "volume abcdefghijkl;", 1, HEAD.length() + 13);
        bad(words, HEAD + "volume abcdefg", 1, HEAD.length() + 13);
        bad(words, six + "volume abcdefg;", 1, six.length() + 13);
        bad(words, six + "clone abcdefg of abcdef;", 1, six.length() + 12);
        bad(words, six + "clone w of abcdefg;", 1, six.length() + 17);
        bad(words, six + "put abcdefg 1 1;", 1, six.length() + 10);
        bad(words, six + "put uvwxyzz 1 1;", 1, six.length() + 10);
        bad(words, six + "remove abcdefg 1;", 1, six.length() + 13);
        bad(words + ", unless it is an OWN WORD", HEAD + "volume entries;", 1, HEAD.length() + 7);
        bad(words, HEAD + "volume entriesx;", 1, HEAD.length() + 13);
        good(words, six, 2);
    }

    private static void fifthDigit() {
        String words = "where a number is asked, a 5th digit at itself";
        good("N (1 to 4 digits)", "blocks 0009 room 0003;", 1);
        bad(words, "blocks 00009 room 3;", 1, 11);
        bad(words, "blocks 99999 room 3;", 1, 11);
        bad(words, "blocks 123456789012 room 3;", 1, 11);
        bad(words, "blocks 9 room 00003;", 1, 18);
        good("N (1 to 4 digits)", ONE + "put v 0001 0999;remove v 0001;churn 0100;", 5);
        bad(words, ONE + "put v 00001 1;", 1, ONE.length() + 10);
        bad(words, ONE + "put v 1 00001;", 1, ONE.length() + 12);
        bad(words, ONE + "remove v 00001;", 1, ONE.length() + 13);
        bad(words, ONE + "churn 00001;", 1, ONE.length() + 10);
        good("N (1 to 4 digits)", ONE + "picks 9999+0000;", 3);
        bad(words, ONE + "picks 10000;", 1, ONE.length() + 10);
        bad(words, ONE + "splits 1<00000;", 1, ONE.length() + 13);
        badAsked(words, "total 10000", 1, 10);
        badAsked(words, "total refs 00000", 1, 15);
        gives("N (1 to 4 digits)", "9999", 9999);
        gives("N (1 to 4 digits)", "0010", 10);
    }

    /** Behind each of its words, numbers and signs a text ends too soon, unless a ; stands there. */
    private static void endsTooSoon() {
        String words = "at the text's length, if it ends too soon";
        String[] bits = {"blocks", "9", "room", "3", ";", "volume", "v", ";", "clone", "w", "of", "v", ";", "put", "v", "1", "1", ";",
            "remove", "v", "1", ";", "picks", "min", "(", "1", ",", "2", ")", "+", "(", "block", "*", "2", ")", ";", "splits", "not",
            "[", "all", "or", "1", "<", "2", "]", "and", "all", ";", "costs", "1", "-", "level", "/", "2", ";", "churn", "1", ";"};
        StringBuilder text = new StringBuilder();
        bad(words + " (one without a STATEMENT)", "", 1, 0);
        bad(words + " (one without a STATEMENT)", " \n ", 1, 3);
        int statements = 0;
        for (String bit : bits) {
            text.append(bit);
            if (bit.equals(";")) {
                statements++;
                good(words, text.toString(), statements);
            } else {
                bad(words, text.toString(), 1, text.length());
                bad(words, text + "  \n", 1, text.length() + 3);
            }
            text.append(" ");
        }
        for (String asked : new String[] {"", "  ", "first", "total ", "first 1", "first 1 <", "first not", "first [all", "first all and",
            "most (1", "most min", "most min(1", "most min(1,", "most min(1,2", "most 1+", "most 1*", "total refs", "total key ", "total refs("}) {
            badAsked(words, asked, 1, asked.length());
        }
    }

    private static void numbersThatCantBe() {
        String words = "a number that can't be, at it";
        bad(words, "blocks   7 room 3;", 2, 9);
        bad(words, "blocks 0007 room 3;", 2, 7);
        bad(words, "blocks 49", 2, 7);
        bad(words, "blocks 8 room 7", 2, 14);
        bad(words, ONE + "put v  1000", 2, ONE.length() + 7);
        bad(words, ONE + "put v 9999 1;", 2, ONE.length() + 6);
        bad(words, ONE + "put v 1 1000", 2, ONE.length() + 8);
        bad(words, ONE + "remove v 1000", 2, ONE.length() + 9);
        bad(words, ONE + "churn 101", 2, ONE.length() + 6);
        bad("one that is none of what is asked, at it", ONE + "put  w 1 1;", 3, ONE.length() + 5);
        bad("one that is none of what is asked, at it", ONE + "put w", 3, ONE.length() + 4);
        bad("a NAME to be given that is there already, at it", ONE + "volume  v", 3, ONE.length() + 8);
    }

    private static void openAtOnce() {
        String words = "the 7th of ( [ not that is open at once, at it";
        String[] opening = {"(", "[", "not ", "min(", "max("};
        for (String one : opening) {
            for (String last : opening) {
                boolean sums = one.endsWith("(");
                if (sums && !last.endsWith("(")) {
                    continue;
                }
                String head = ONE + "splits " + times(5, one);
                String tail = one.startsWith("m") ? ",1)" : one.equals("(") ? ")" : one.equals("[") ? "]" : "";
                String close = last.startsWith("m") ? ",1)" : last.equals("(") ? ")" : last.equals("[") ? "]" : "";
                String inner = last.endsWith("(") ? "1" + close : "1<2" + close;
                String compared = last.endsWith("(") ? "<2" : "";
                String body = sums ? inner + times(5, tail) + compared : inner + compared + times(5, tail);
                good(words, head + last + body + ";", 3);
                String seven = ONE + "splits " + times(6, one) + last;
                bad(words, seven, 4, seven.length() - (last.equals("not ") ? 4 : 1));
            }
        }
        words = "one that is closed is open no more";
        good(words, ONE + "picks ((((((1))))))+((((((2))))))*(min(1,max(2,3)));", 3);
        good(words, ONE + "splits [[[[[[all]]]]]] and [[[[[[all]]]]]];", 3);
        good(words, ONE + "splits [[[[[(1)<(2)]]]]] or [[[[[max(1,2)=min(3,4)-(5)]]]]];", 3);
        words = "not until its FACT ends";
        good(words, ONE + "splits not not not not not not all and not not not not not not all;", 3);
        good(words, ONE + "splits not not not not not (1)<(2) or not [[[[[all]]]]];", 3);
        bad(words, ONE + "splits not not not not not not (1)<2;", 4, ONE.length() + 31);
        bad(words, ONE + "splits not not not not not not 1<(2);", 4, ONE.length() + 33);
        bad(words, ONE + "splits not not not not not not [all];", 4, ONE.length() + 31);
        words = "a formula ends, and nothing is open any more";
        good(words, ONE + "picks ((((((1))))));costs ((((((1))))));splits [[[[[[all]]]]]];", 5);
        askedOpen();
    }

    private static void askedOpen() {
        String words = "the 7th of ( [ not refs key that is open at once, at it";
        CloneVolumes x = made(ONE);
        for (String one : new String[] {"refs ", "key ", "(", "min("}) {
            String tail = one.startsWith("m") ? ",1)" : one.equals("(") ? ")" : "";
            Check.due(words + ": six are fine", Check.ask(x, "total " + times(6, one) + "1" + times(6, tail)) >= 0, true);
            for (String last : new String[] {"refs ", "key ", "(", "min("}) {
                String seven = "total " + times(6, one) + last;
                badAsked(words, seven, 4, seven.length() - (last.endsWith("(") ? 1 : last.length()));
            }
        }
        badAsked(words, "first not not [[refs key refs 1", 4, 25);
        badAsked(words, "first not not not [[[not all", 4, 21);
        words = "refs, key until its PART ends";
        Check.due(words, Check.ask(x, "total refs refs refs refs refs refs 1+key key key key key key 1"), 0);
        Check.due(words, Check.ask(x, "total (refs 1+refs 1+refs 1+refs 1+refs 1+refs 1+refs 1+key 1)"), 0);
        Check.due(words, Check.ask(x, "total refs refs refs refs refs (1)*((((((1))))))"), 0);
        badAsked(words, "total refs refs refs refs refs refs (1)", 4, 36);
    }

    private static void theFirstAlong() {
        String words = "FAULTS, the first along the text";
        bad(words, "blocks 7 room 9;", 2, 7);
        bad(words, "blocks 7 rom", 2, 7);
        bad(words, "blocks 8 rom 9;", 1, 9);
        bad(words, ONE + "put w 1000 1000;", 3, ONE.length() + 4);
        bad(words, ONE + "put v 1000 x", 2, ONE.length() + 6);
        bad(words, ONE + "clone v off w;", 3, ONE.length() + 6);
        bad(words, ONE + "picks 1;picks (((((((1", 5, ONE.length() + 8);
        bad(words, ONE + "picks 1+;picks 1;", 1, ONE.length() + 8);
        bad(words, ONE + "picks (((((((1;picks 1;", 4, ONE.length() + 12);
        bad(words, ONE + "picks (((((()))));", 1, ONE.length() + 12);
    }
}
