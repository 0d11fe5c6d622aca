import java.util.Random;

/** FAULTS of stores and questions: each kind told by hand, and texts spoilt by chance against the SecondReader. */
public final class FaultTest {
    private static final String HEAD = "blocks 9 room 3;";
    private static final String[] BITS = {"blocks", "room", "volume", "clone", "of", "put", "remove", "picks", "splits",
        "costs", "churn", "block", "from", "level", "entries", "number", "count", "fresh", "saved", "refs", "key", "or",
        "and", "not", "all", "min", "max", "first", "last", "often", "total", "most", "least", "(", ")", "[", "]", ",",
        ";", "+", "-", "*", "/", "<", ">", "=", "0", "7", "48", "999", "1000", "12345", "a", "b", "abcdef", "abcdefg",
        "A", "?", "\t", " ", "\n", "\u00e9", "((", "[[", "not not", "min(", "refs refs", "key key"};
    private static final String[] ASKED = {"number", "count", "level", "entries", "fresh", "saved", "refs", "key"};

    private FaultTest() {
    }

    public static void main(String[] args) {
        byHand();
        counted();
        deep();
        questions();
        spoilt(new Random(5), 60000);
        Check.close();
    }

    private static void store(String text, int kind, int place) {
        CloneVolumes x = new CloneVolumes();
        Check.due("store() of " + text, Check.store(x, text), -1);
        Check.due("fault(0) of " + text, x.fault(0), kind);
        Check.due("fault(1) of " + text, x.fault(1), place);
        Check.due("status(1) of " + text, x.status(1), 1);
        Check.due("has(0) of " + text, x.has(0), 0);
    }

    /** A statement behind a head and `volume v;`, its fault's place told from the statement's first byte on. */
    private static void statement(String text, int kind, int place) {
        String ahead = HEAD + "volume v;";
        store(ahead + text, kind, ahead.length() + place);
    }

    private static void good(String text, int statements) {
        CloneVolumes x = new CloneVolumes();
        Check.due("store() of " + text, Check.store(x, text), statements);
        Check.due("fault(0) of " + text, x.fault(0), 0);
        Check.due("fault(1) of " + text, x.fault(1), -1);
        Check.due("fault(2) of " + text, x.fault(2), -1);
        Check.due("status(1) of " + text, x.status(1), 0);
    }

    private static void byHand() {
        store("", 1, 0);
        store("  \n ", 1, 4);
        store("volume v;", 1, 0);
        store("; blocks 9 room 3;", 1, 0);
        store("blocks", 1, 6);
        store("blocks9 room 3;", 1, 6);
        store("blocks 9room 3;", 1, 8);
        store("blocks 9 room3;", 1, 13);
        store("blocks 9 room 3", 1, 15);
        store("blocks 9 room 3 ", 1, 16);
        store("blocks 9 room 3.", 1, 15);
        store("blockss 9 room 3;", 1, 0);
        store("Blocks 9 room 3;", 1, 0);
        store("\tblocks 9 room 3;", 1, 0);
        store("blocks 9 rooms 3;", 1, 9);
        store("blocks 00009 room 3;", 1, 11);
        store("blocks 12345 room 3;", 1, 11);
        store("blocks 7 room 3;", 2, 7);
        store("blocks 49 room 3;", 2, 7);
        store("blocks 8 room 2;", 2, 14);
        store("blocks 8 room 7;", 2, 14);
        good("blocks 8 room 3;", 1);
        good("blocks 48 room 6;", 1);
        good("\n blocks\n0009 room 03 ; ", 1);
        good(HEAD + "volume v ; clone w of v;put v 0 999;remove w 999;picks block;splits all;costs 1;churn 100;", 9);
        good(HEAD + "churn 1;churn 2;churn 0;", 4);
        good(HEAD + "volume first;volume total;volume zzzzzz;", 4);

        statement("blocks 9 room 3;", 1, 0);
        statement("v 1 2;", 1, 0);
        statement(";", 1, 0);
        statement("volume;", 1, 6);
        statement("volume 7;", 1, 7);
        statement("volume V;", 1, 7);
        statement("volume of;", 1, 7);
        statement("volume entries;", 1, 7);
        statement("volume entriess;", 1, 13);
        statement("volume abcdefg;", 1, 13);
        statement("volume a1;", 1, 8);
        statement("volume a b;", 1, 9);
        statement("volume v;", 3, 7);
        statement("clone v of v;", 3, 6);
        statement("clone w v;", 1, 8);
        statement("clone w of u;", 3, 11);
        statement("clone w of w;", 3, 11);
        statement("clone w of put;", 1, 11);
        statement("put u 1 1;", 3, 4);
        statement("put v;", 1, 5);
        statement("put v1 1;", 1, 5);
        statement("put v 1000 1;", 2, 6);
        statement("put v 1 1000;", 2, 8);
        statement("put v 10000 1;", 1, 10);
        statement("put v 1 1 1;", 1, 10);
        statement("put v -1 1;", 1, 6);
        statement("remove u 1;", 3, 7);
        statement("remove v 1 1;", 1, 11);
        statement("remove v 1000;", 2, 9);
        statement("churn 101;", 2, 6);
        statement("churn;", 1, 5);
        statement("picks entries;", 1, 6);
        statement("picks number;", 1, 6);
        statement("picks v;", 1, 6);
        statement("picks ;", 1, 6);
        statement("picks blocks;", 1, 6);
        statement("picks 1 2;", 1, 8);
        statement("picks 1 + ;", 1, 10);
        statement("picks -1;", 1, 6);
        statement("picks 12345;", 1, 10);
        statement("picks min 1;", 1, 10);
        statement("picks min(1);", 1, 11);
        statement("picks min(1,2;", 1, 13);
        statement("picks 1 < 2;", 1, 8);
        statement("picks (1;", 1, 8);
        statement("picks refs 1;", 1, 6);
        statement("costs from;", 1, 6);
        statement("costs 2level;", 1, 7);
        statement("splits block < 1;", 1, 7);
        statement("splits from < 1;", 1, 7);
        statement("splits level;", 1, 12);
        statement("splits 1 < 2 < 3;", 1, 13);
        statement("splits [all;", 1, 11);
        statement("splits (all);", 1, 8);
        statement("splits not 1;", 1, 12);
        statement("splits all or;", 1, 13);
        statement("splits all and all all;", 1, 19);
        statement("splits 1<2and all;", 1, 10);
        statement("splits alls;", 1, 7);
    }

    private static void counted() {
        String eight = HEAD + "volume a;volume b;volume c;volume d;clone e of a;volume f;volume g;volume h;";
        good(eight, 9);
        store(eight + "volume i;", 5, eight.length());
        store(eight + "clone ?", 5, eight.length());
        for (String word : new String[] {"picks 1;", "costs 1;", "splits all;"}) {
            good(HEAD + word, 2);
            store(HEAD + word + " " + word, 5, HEAD.length() + word.length() + 1);
        }
        StringBuilder sixty = new StringBuilder(HEAD);
        for (int i = 1; i < 60; i++) {
            sixty.append("churn 1;");
        }
        good(sixty + " \n ", 60);
        store(sixty + " churn 1;", 5, sixty.length() + 1);
        store(sixty + "?", 5, sixty.length());
        store(sixty + ";", 5, sixty.length());
    }

    private static void deep() {
        good(HEAD + "picks ((((((1))))))+((((((2))))));", 2);
        store(HEAD + "picks (((((((1)))))));", 4, HEAD.length() + 12);
        store(HEAD + "picks (((((((", 4, HEAD.length() + 12);
        good(HEAD + "picks min(1,min(2,min(3,min(4,min(5,min(6,7))))));", 2);
        store(HEAD + "picks (((((min(1,max(", 4, HEAD.length() + 20);
        good(HEAD + "splits not not not not not not all and not all;", 2);
        store(HEAD + "splits not not not not not not not all;", 4, HEAD.length() + 31);
        good(HEAD + "splits not[not[not[all]]];", 2);
        store(HEAD + "splits not[not[not[[all]]]];", 4, HEAD.length() + 19);
        good(HEAD + "splits [[[[[(1)<(2)]]]]] or [[[[[[all]]]]]];", 2);
        store(HEAD + "splits [[[[[((", 4, HEAD.length() + 13);
    }

    private static void question(String text, int kind, int place) {
        CloneVolumes x = new CloneVolumes();
        Check.store(x, HEAD);
        Check.due("ask() of " + text, Check.ask(x, text), CloneVolumes.NOTHING);
        Check.due("fault(0) of " + text, x.fault(0), kind);
        Check.due("fault(1) of " + text, x.fault(1), place);
    }

    private static void questions() {
        question("", 1, 0);
        question("  ", 1, 2);
        question("firsts all", 1, 0);
        question("first", 1, 5);
        question("first 1", 1, 7);
        question("total all", 1, 6);
        question("total 1;", 1, 7);
        question("total 1 2", 1, 8);
        question("total block", 1, 6);
        question("total from", 1, 6);
        question("total refs", 1, 10);
        question("total refs refs refs refs refs refs key 1", 4, 36);
        question("total key key key key key key (1)", 4, 30);
        question("total refs1", 1, 10);
        question("total 99999", 1, 10);
        question("first not not not not not not [all]", 4, 30);
        question("often all or", 1, 12);
        CloneVolumes x = new CloneVolumes();
        Check.store(x, HEAD);
        Check.due("six deep", Check.ask(x, "total refs refs refs key key (1)"), 0);
        Check.due("closed again", Check.ask(x, "total refs(1)+refs refs refs refs refs (1)"), 0);
        Check.due("fault(0) without one", x.fault(0), 0);
        Check.due("fault(1) without one", x.fault(1), -1);
    }

    private static void spoilt(Random r, int runs) {
        CloneVolumes x = new CloneVolumes();
        CloneVolumes asked = new CloneVolumes();
        Check.store(asked, HEAD);
        for (int i = 0; i < runs && Check.wrongs() == 0; i++) {
            String text = i % 2 == 0 ? someStore(r) : someQuestion(r);
            for (int n = r.nextInt(4); n > 0; n--) {
                text = spoil(text, r);
            }
            if (text.length() > 1600) {
                continue;
            }
            if (i % 2 == 0) {
                int[] want = SecondReader.ofStore(text);
                Check.due("store() of " + text, Check.store(x, text), want[0] == 0 ? want[1] : -1);
                Check.due("fault(0) of " + text, x.fault(0), want[0]);
                Check.due("fault(1) of " + text, x.fault(1), want[0] == 0 ? -1 : want[1]);
            } else {
                int[] want = SecondReader.ofQuestion(text);
                Check.due("ask() of " + text, Check.ask(asked, text) == CloneVolumes.NOTHING, want[0] != 0);
                Check.due("fault(0) of " + text, asked.fault(0), want[0]);
                Check.due("fault(1) of " + text, asked.fault(1), want[0] == 0 ? -1 : want[1]);
            }
        }
    }

    private static String someStore(Random r) {
        StringBuilder text = new StringBuilder("blocks " + (8 + r.nextInt(41)) + " room " + (3 + r.nextInt(4)) + ";volume a;");
        for (int i = r.nextInt(12); i > 0; i--) {
            switch (r.nextInt(8)) {
                case 0: text.append("volume ").append((char) ('b' + r.nextInt(20))).append(";"); break;
                case 1: text.append("clone ").append((char) ('b' + r.nextInt(20))).append(" of a;"); break;
                case 2: text.append("remove a ").append(r.nextInt(1000)).append(";"); break;
                case 3: text.append("picks ").append(Formula.someSum(r, 6, "block", "from", "level")).append(";"); break;
                case 4: text.append("splits ").append(Formula.someTest(r, 6, "entries", "level")).append(";"); break;
                case 5: text.append("costs ").append(Formula.someSum(r, 6, "block", "entries", "level")).append(";"); break;
                case 6: text.append("churn ").append(r.nextInt(101)).append(";"); break;
                default: text.append("put a ").append(r.nextInt(1000)).append(" ").append(r.nextInt(1000)).append(";");
            }
        }
        return text.toString();
    }

    private static String someQuestion(Random r) {
        String[] tests = {"first", "last", "often"};
        String[] sums = {"total", "most", "least"};
        boolean test = r.nextBoolean();
        return (test ? tests : sums)[r.nextInt(3)] + " "
            + (test ? Formula.someTest(r, 6, ASKED) : Formula.someSum(r, 6, ASKED));
    }

    private static String spoil(String text, Random r) {
        int from = r.nextInt(text.length() + 1);
        int to = Math.min(text.length(), from + r.nextInt(4));
        switch (r.nextInt(4)) {
            case 0: return text.substring(0, from) + text.substring(to);
            case 1: return text.substring(0, from);
            case 2: return text.substring(0, from) + BITS[r.nextInt(BITS.length)] + text.substring(to);
            default: return text.substring(0, from) + BITS[r.nextInt(BITS.length)] + text.substring(from);
        }
    }
}
