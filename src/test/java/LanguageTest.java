import java.lang.reflect.Field;
import java.lang.reflect.Method;
import java.lang.reflect.Modifier;
import java.nio.file.Files;
import java.nio.file.Path;
import java.util.ArrayList;
import java.util.Arrays;
import java.util.List;
import java.util.Map;
import java.util.Set;
import java.util.TreeMap;
import java.util.TreeSet;
import java.util.regex.Matcher;
import java.util.regex.Pattern;

/** The rules of LANGUAGE.md that can be seen from the class and its text. Runs in the project's folder. */
public final class LanguageTest {
    private static final Set<String> LIBRARY = Set.of("System.arraycopy", "Math.min", "Math.max", "Long.bitCount");
    private static final Set<String> FACE = Set.of("feed", "end", "store", "fault", "has", "letter", "volume", "block",
        "entry", "kept", "read", "key", "total", "path", "shared", "differs", "writes", "spread", "lost", "worst",
        "victim", "room", "back", "see", "fits", "tells", "put", "remove", "copy", "drop", "checkpoint", "crash",
        "chance", "undo", "seed", "ask", "image", "octet", "on", "status");

    private static final Pattern HEAD = Pattern.compile("^( +)(?:\\w+ )*?[\\w\\[\\]]+ ?(\\w+)\\(([^)]*)\\) \\{$");
    private static final String NO_HEAD = "(if|for|while|switch|else|\\}).*";

    private LanguageTest() {
    }

    public static void main(String[] args) throws Exception {
        String source = Files.readString(Path.of("src/main/java/CloneVolumes.java"));
        String code = source.replaceAll("(?s)/\\*.*?\\*/", "").replaceAll("//[^\n]*", "").replaceAll("\"[^\"\n]*\"", "\"\"");
        words(code);
        methods(code);
        depth(code);
        face();
        classes();
        Check.close();
    }

    private static void none(String rule, boolean found) {
        Check.due(rule, found, false);
    }

    private static void words(String code) {
        for (String word : new String[] {"import", "package", "throw", "throws", "try", "catch", "finally", "synchronized",
            "assert", "native", "volatile", "transient", "instanceof", "var", "yield", "Object", "protected"}) {
            none("the word " + word, Pattern.compile("\\b" + word + "\\b").matcher(code).find());
        }
        none("a lambda or a method reference", code.contains("->") || code.contains("::"));
        none("texts joined by +", Pattern.compile("\"\\s*\\+|\\+\\s*\"").matcher(code).find());
        none("a loop without an end", Pattern.compile("while \\(true\\)|for \\(;;\\)").matcher(code).find());
        none("a tab", code.contains("\t"));
        Matcher m = Pattern.compile("\\b(System|Math|Long|Integer|Arrays|List|Character)\\.\\w+").matcher(code);
        while (m.find()) {
            Check.due("library: " + m.group(), LIBRARY.contains(m.group()), true);
        }
    }

    private static void methods(String code) {
        String[] lines = code.split("\n");
        for (int i = 0; i < lines.length; i++) {
            Matcher m = HEAD.matcher(lines[i]);
            if (!m.find() || lines[i].trim().matches(NO_HEAD)) {
                continue;
            }
            int end = i;
            while (!lines[end].equals(m.group(1) + "}")) {
                end++;
            }
            Check.due(m.group(2) + " has " + (end - i + 1) + " lines", end - i < 60, true);
            Check.due(m.group(2) + " has parameters", m.group(3).split(",").length <= 7, true);
        }
    }

    /** How deep calls go, the library's too; a method stands for all of its name, and those that call one another for one. */
    private static void depth(String code) {
        Map<String, Set<String>> calls = calls(code);
        Map<String, Set<String>> reached = new TreeMap<>();
        for (String name : calls.keySet()) {
            reached.put(name, reach(calls, name));
        }
        Map<String, Integer> deep = new TreeMap<>();
        for (String name : FACE) {
            int levels = deepest(calls, reached, deep, name);
            Check.due(name + " calls " + levels + " deep", levels <= 8, true);
        }
    }

    /** The names that each method's text calls. */
    private static Map<String, Set<String>> calls(String code) {
        Map<String, Set<String>> calls = new TreeMap<>();
        Pattern called = Pattern.compile("(\\bnew )?\\b(\\w+)\\(");
        Set<String> into = new TreeSet<>();
        for (String line : code.split("\n")) {
            Matcher m = HEAD.matcher(line);
            if (m.find() && !line.trim().matches(NO_HEAD)) {
                into = calls.computeIfAbsent(m.group(2), name -> new TreeSet<>());
                continue;
            }
            m = called.matcher(line);
            while (m.find()) {
                if (m.group(1) == null && !Set.of("if", "for", "while", "switch", "return").contains(m.group(2))) {
                    into.add(m.group(2));
                }
            }
        }
        return calls;
    }

    private static Set<String> reach(Map<String, Set<String>> calls, String from) {
        Set<String> found = new TreeSet<>();
        List<String> ahead = new ArrayList<>(List.of(from));
        while (!ahead.isEmpty()) {
            for (String name : calls.getOrDefault(ahead.remove(0), Set.of())) {
                if (found.add(name)) {
                    ahead.add(name);
                }
            }
        }
        return found;
    }

    private static int deepest(Map<String, Set<String>> calls, Map<String, Set<String>> reached, Map<String, Integer> deep, String name) {
        if (deep.containsKey(name)) {
            return deep.get(name);
        }
        Set<String> ring = new TreeSet<>(Set.of(name));
        for (String other : reached.getOrDefault(name, Set.of())) {
            if (reached.getOrDefault(other, Set.of()).contains(name)) {
                ring.add(other);
            }
        }
        int most = 0;
        for (String one : ring) {
            for (String other : calls.getOrDefault(one, Set.of())) {
                most = ring.contains(other) ? most : Math.max(most, deepest(calls, reached, deep, other));
            }
        }
        deep.put(name, most + 1);
        return most + 1;
    }

    private static void face() {
        Set<String> found = new TreeSet<>();
        for (Method m : CloneVolumes.class.getDeclaredMethods()) {
            if (Modifier.isPublic(m.getModifiers())) {
                found.add(m.getName());
                none(m.getName() + " is static", Modifier.isStatic(m.getModifiers()));
            } else {
                Check.due(m.getName() + " is private", Modifier.isPrivate(m.getModifiers()), true);
                none("no private one has the name " + m.getName(), FACE.contains(m.getName()));
            }
        }
        Check.due("the face's methods: " + found, found.equals(FACE), true);
        Check.due("final", Modifier.isFinal(CloneVolumes.class.getModifiers()), true);
        Check.due("one constructor", CloneVolumes.class.getDeclaredConstructors().length, 1);
        List<String> open = new ArrayList<>();
        for (Field f : CloneVolumes.class.getDeclaredFields()) {
            if (!Modifier.isPrivate(f.getModifiers())) {
                open.add(f.getName());
            }
        }
        Check.due("the constants", open.equals(Arrays.asList("NONE", "NOTHING")), true);
        Check.due("NONE", CloneVolumes.NONE, -1);
        Check.due("NOTHING", CloneVolumes.NOTHING, -1000000000000000L);
    }

    private static void classes() {
        List<Class<?>> all = new ArrayList<>(Arrays.asList(CloneVolumes.class.getDeclaredClasses()));
        Check.due("classes inside: " + all.size(), all.size() <= 12, true);
        for (Class<?> c : all) {
            Check.due(c + " is static", Modifier.isStatic(c.getModifiers()), true);
            none(c + " is open", Modifier.isPublic(c.getModifiers()) || Modifier.isProtected(c.getModifiers()));
            for (Method m : c.getDeclaredMethods()) {
                none(c + " has a method of the face's names: " + m.getName(), FACE.contains(m.getName()));
            }
        }
        all.add(CloneVolumes.class);
        for (Class<?> c : all) {
            int fields = 0;
            for (Field f : c.getDeclaredFields()) {
                if (Modifier.isStatic(f.getModifiers())) {
                    Check.due(f + " is a constant", Modifier.isFinal(f.getModifiers())
                        && (f.getType().isPrimitive() || f.getType() == String.class), true);
                } else {
                    fields++;
                }
            }
            Check.due(c + " has " + fields + " fields", fields <= 20, true);
        }
    }
}
