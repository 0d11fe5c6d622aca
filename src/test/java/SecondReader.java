import java.util.ArrayList;
import java.util.List;
import java.util.Set;

/** A second reading of the texts, sign by sign, for their FAULTS alone. */
final class SecondReader {
    private static final class Fault extends RuntimeException {
        private static final long serialVersionUID = 1L;
        final int kind;
        final int place;

        Fault(int kind, int place) {
            super(null, null, false, false);
            this.kind = kind;
            this.place = place;
        }
    }

    static final Set<String> OWN = Set.of("blocks", "room", "volume", "clone", "of", "put", "remove", "picks", "splits",
        "costs", "churn", "block", "from", "level", "entries", "number", "count", "fresh", "saved", "refs", "key",
        "or", "and", "not", "all", "min", "max");

    private final String text;
    private int at;
    private int open;
    private Set<String> facts;
    private boolean asked;
    private final List<String> names = new ArrayList<>();
    private int statements;

    private SecondReader(String text) {
        this.text = text;
    }

    /** Kind and place of the first FAULT, or 0 and how many STATEMENTS. */
    static int[] ofStore(String text) {
        SecondReader r = new SecondReader(text);
        try {
            r.store();
            return new int[] {0, r.statements};
        } catch (Fault f) {
            return new int[] {f.kind, f.place};
        }
    }

    static int[] ofQuestion(String text) {
        SecondReader r = new SecondReader(text);
        try {
            r.question();
            return new int[] {0, 0};
        } catch (Fault f) {
            return new int[] {f.kind, f.place};
        }
    }

    private char here() {
        return at < text.length() ? text.charAt(at) : 0;
    }

    private static boolean letter(char c) {
        return c >= 'a' && c <= 'z';
    }

    private static boolean digit(char c) {
        return c >= '0' && c <= '9';
    }

    private void blanks() {
        while (at < text.length() && (here() == ' ' || here() == '\n')) {
            at++;
        }
    }

    /** Behind the blanks: a word or number right behind another one goes on with no text. */
    private void apart() {
        int old = at;
        blanks();
        if (old == at && at > 0 && at < text.length() && (letter(here()) || digit(here()))
            && (letter(text.charAt(at - 1)) || digit(text.charAt(at - 1)))) {
            throw new Fault(1, at);
        }
    }

    private String word() {
        int to = at;
        while (to < text.length() && letter(text.charAt(to))) {
            to++;
        }
        return text.substring(at, to);
    }

    private boolean take(String token) {
        apart();
        boolean is = letter(token.charAt(0)) ? word().equals(token) : text.startsWith(token, at);
        if (is) {
            at += token.length();
        }
        return is;
    }

    private void must(String token) {
        if (!take(token)) {
            throw new Fault(1, at);
        }
    }

    private int number() {
        apart();
        int from = at;
        while (digit(here())) {
            if (at - from == 4) {
                throw new Fault(1, at);
            }
            at++;
        }
        if (at == from) {
            throw new Fault(1, at);
        }
        return Integer.parseInt(text.substring(from, at));
    }

    private void number(int least, int most) {
        blanks();
        int from = at;
        int n = number();
        if (n < least || n > most) {
            throw new Fault(2, from);
        }
    }

    private String name() {
        apart();
        String w = word();
        if (w.isEmpty() || OWN.contains(w)) {
            throw new Fault(1, at);
        }
        if (w.length() > 6) {
            throw new Fault(1, at + 6);
        }
        return w;
    }

    private void known() {
        String w = name();
        if (!names.contains(w)) {
            throw new Fault(3, at);
        }
        at += w.length();
    }

    private void store() {
        Set<String> once = new java.util.HashSet<>();
        must("blocks");
        number(8, 48);
        must("room");
        number(3, 6);
        must(";");
        statements = 1;
        for (blanks(); at < text.length(); blanks()) {
            int from = at;
            if (statements == 60) {
                throw new Fault(5, from);
            }
            String w = word();
            boolean makes = w.equals("volume") || w.equals("clone");
            boolean formula = w.equals("picks") || w.equals("splits") || w.equals("costs");
            if (makes && names.size() == 8 || formula && !once.add(w)) {
                throw new Fault(5, from);
            }
            at += w.length();
            if (makes) {
                String fresh = name();
                if (names.contains(fresh)) {
                    throw new Fault(3, at);
                }
                at += fresh.length();
                if (w.equals("clone")) {
                    must("of");
                    known();
                }
                names.add(fresh);
            } else if (w.equals("put")) {
                known();
                number(0, 999);
                number(0, 999);
            } else if (w.equals("remove")) {
                known();
                number(0, 999);
            } else if (w.equals("churn")) {
                number(0, 100);
            } else if (w.equals("picks")) {
                facts = Set.of("level", "block", "from");
                sum();
            } else if (w.equals("costs")) {
                facts = Set.of("level", "block", "entries");
                sum();
            } else if (w.equals("splits")) {
                facts = Set.of("level", "entries");
                test();
            } else {
                throw new Fault(1, from);
            }
            must(";");
            statements++;
        }
    }

    private void question() {
        asked = true;
        facts = Set.of("number", "count", "level", "entries", "fresh", "saved");
        blanks();
        String w = word();
        if (w.equals("first") || w.equals("last") || w.equals("often")) {
            at += w.length();
            test();
        } else if (w.equals("total") || w.equals("most") || w.equals("least")) {
            at += w.length();
            sum();
        } else {
            throw new Fault(1, at);
        }
        blanks();
        if (at < text.length()) {
            throw new Fault(1, at);
        }
    }

    private boolean opened(String token) {
        apart();
        int from = at;
        if (!take(token)) {
            return false;
        }
        if (++open > 6) {
            throw new Fault(4, from);
        }
        return true;
    }

    private void test() {
        do {
            do {
                fact();
            } while (take("and"));
        } while (take("or"));
    }

    private void fact() {
        if (opened("not")) {
            fact();
            open--;
        } else if (opened("[")) {
            test();
            must("]");
            open--;
        } else if (!take("all")) {
            sum();
            if (!take("<") && !take(">")) {
                must("=");
            }
            sum();
        }
    }

    private void sum() {
        do {
            do {
                part();
            } while (take("*") || take("/"));
        } while (take("+") || take("-"));
    }

    private void part() {
        if (opened("(")) {
            sum();
            must(")");
            open--;
            return;
        }
        if (take("min") || take("max")) {
            if (!opened("(")) {
                throw new Fault(1, at);
            }
            sum();
            must(",");
            sum();
            must(")");
            open--;
            return;
        }
        if (asked && (opened("refs") || opened("key"))) {
            part();
            open--;
            return;
        }
        for (String f : facts) {
            if (take(f)) {
                return;
            }
        }
        number();
    }
}
