import java.util.ArrayList;
import java.util.List;
import java.util.Map;
import java.util.Random;
import java.util.function.IntUnaryOperator;
import java.util.regex.Matcher;
import java.util.regex.Pattern;

/** A second reading of TESTS and SUMS, told straight from the text each time; the texts must be without a FAULT. */
final class Formula {
    private final List<String> tokens = new ArrayList<>();
    private int at;
    private Map<String, Integer> facts;
    private IntUnaryOperator refs;
    private IntUnaryOperator key;

    Formula(String text) {
        Matcher m = Pattern.compile("[a-z]+|[0-9]+|[^ \\n]").matcher(text);
        while (m.find()) {
            tokens.add(m.group());
        }
    }

    Formula looking(IntUnaryOperator refsOf, IntUnaryOperator keyOf) {
        refs = refsOf;
        key = keyOf;
        return this;
    }

    long sum(Map<String, Integer> given) {
        facts = given;
        at = 0;
        return sum();
    }

    boolean test(Map<String, Integer> given) {
        facts = given;
        at = 0;
        return test();
    }

    private String peek() {
        return at < tokens.size() ? tokens.get(at) : "";
    }

    private boolean eat(String token) {
        if (peek().equals(token)) {
            at++;
            return true;
        }
        return false;
    }

    private boolean test() {
        boolean holds = both();
        while (eat("or")) {
            boolean other = both();
            holds = holds || other;
        }
        return holds;
    }

    private boolean both() {
        boolean holds = fact();
        while (eat("and")) {
            boolean other = fact();
            holds = holds && other;
        }
        return holds;
    }

    private boolean fact() {
        if (eat("not")) {
            return !fact();
        }
        if (eat("[")) {
            boolean holds = test();
            eat("]");
            return holds;
        }
        if (eat("all")) {
            return true;
        }
        long left = sum();
        String sign = tokens.get(at++);
        long right = sum();
        return sign.equals("<") ? left < right : sign.equals(">") ? left > right : left == right;
    }

    private static long bound(long value) {
        return Math.max(-1000000L, Math.min(1000000L, value));
    }

    private long sum() {
        long value = product();
        while (peek().equals("+") || peek().equals("-")) {
            boolean plus = tokens.get(at++).equals("+");
            long other = product();
            value = bound(plus ? value + other : value - other);
        }
        return value;
    }

    private long product() {
        long value = part();
        while (peek().equals("*") || peek().equals("/")) {
            boolean times = tokens.get(at++).equals("*");
            long other = part();
            value = times ? bound(value * other) : other == 0 ? 0 : (long) Math.floor((double) value / (double) other);
        }
        return value;
    }

    private long part() {
        String token = tokens.get(at++);
        if (token.equals("(")) {
            long value = sum();
            eat(")");
            return value;
        }
        if (token.equals("min") || token.equals("max")) {
            eat("(");
            long one = sum();
            eat(",");
            long other = sum();
            eat(")");
            return token.equals("min") ? Math.min(one, other) : Math.max(one, other);
        }
        if (token.equals("refs")) {
            return refs.applyAsInt((int) part());
        }
        if (token.equals("key")) {
            return key.applyAsInt((int) part());
        }
        return Character.isDigit(token.charAt(0)) ? Long.parseLong(token) : facts.get(token);
    }

    // ---- made up by chance

    static String someSum(Random r, int open, String... words) {
        StringBuilder text = new StringBuilder(someProduct(r, open, words));
        for (int i = r.nextInt(3); i > 0; i--) {
            text.append(r.nextBoolean() ? " + " : "-").append(someProduct(r, open, words));
        }
        return text.toString();
    }

    private static String someProduct(Random r, int open, String... words) {
        StringBuilder text = new StringBuilder(somePart(r, open, words));
        for (int i = r.nextInt(5) == 0 ? 2 : r.nextInt(2); i > 0; i--) {
            text.append(r.nextBoolean() ? "*" : " / ").append(somePart(r, open, words));
        }
        return text.toString();
    }

    private static String somePart(Random r, int open, String... words) {
        int what = r.nextInt(open > 0 ? 10 : 7);
        if (what < 2) {
            return " " + (r.nextInt(4) == 0 ? r.nextInt(10000) : r.nextInt(8));
        }
        if (what < 7) {
            String word = words[r.nextInt(words.length)];
            if (!word.equals("refs") && !word.equals("key")) {
                return " " + word;
            }
            return open > 0 ? " " + word + somePart(r, open - 1, words) : " 3";
        }
        if (what == 7) {
            return "(" + someSum(r, open - 1, words) + ")";
        }
        return (what == 8 ? " min" : " max") + "(" + someSum(r, open - 1, words) + "," + someSum(r, open - 1, words) + ")";
    }

    static String someTest(Random r, int open, String... words) {
        StringBuilder text = new StringBuilder(someBoth(r, open, words));
        for (int i = r.nextInt(2); i > 0; i--) {
            text.append(" or ").append(someBoth(r, open, words));
        }
        return text.toString();
    }

    private static String someBoth(Random r, int open, String... words) {
        StringBuilder text = new StringBuilder(someFact(r, open, words));
        for (int i = r.nextInt(2); i > 0; i--) {
            text.append(" and ").append(someFact(r, open, words));
        }
        return text.toString();
    }

    private static String someFact(Random r, int open, String... words) {
        int what = r.nextInt(open > 0 ? 8 : 6);
        if (what == 7) {
            return " not " + someFact(r, open - 1, words);
        }
        if (what == 6) {
            return "[" + someTest(r, open - 1, words) + "]";
        }
        if (what == 5) {
            return " all";
        }
        String[] signs = {"<", ">", "="};
        return someSum(r, Math.min(open, 2), words) + signs[r.nextInt(3)] + someSum(r, Math.min(open, 2), words);
    }
}
