import java.io.IOException;
import java.nio.file.Files;
import java.nio.file.Path;
import java.util.HashMap;
import java.util.HashSet;
import java.util.Map;
import java.util.Set;
import java.util.TreeMap;
import java.util.TreeSet;
import java.util.regex.Matcher;
import java.util.regex.Pattern;

/** What of ../shared/LANGUAGE.md can be seen in the program's text; it takes the text to be set as the program's is now. */
public final class LanguageTest {
    private static final Pattern HEADER = Pattern.compile(
        "^( +)((?:public |private |static |final )*)(?:[\\w\\[\\]]+ )?(\\w+)\\((.*)\\) \\{$");
    private static final Pattern CLASS = Pattern.compile("^( *)((?:\\w+ )*)class (\\w+)(?: extends (\\w+))? \\{$");
    private static final Pattern CALL = Pattern.compile("(new )?\\b(\\w+)\\(");
    private static final Set<String> NO_METHODS = Set.of("if", "for", "while", "switch", "catch");
    private static final Set<String> LIBRARY = Set.of("Math", "Long", "Integer");
    /** The document names no exception, so that none is thrown or caught. */
    private static final String[] FORBIDDEN = {
        "->", "::", "@", "...", "package ", "import ", "protected ", "throw", "try ", "catch", "finally", "synchronized",
        "assert ", "volatile", "native ", "strictfp", "Exact(", "hashCode", "toString", "System", "Thread", "Object", "NaN"
    };

    private static String[] lines;
    /** By name and number of parameters, as "worth 1", those of all classes together: which of them it calls. */
    private static final Map<String, Set<String>> METHODS = new TreeMap<>();
    private static final Map<String, String> BODIES = new HashMap<>();
    /** The class that another one extends. */
    private static final Map<String, String> ABOVE = new TreeMap<>();
    private static final Map<String, Integer> DEPTHS = new HashMap<>();

    public static void main(String[] args) throws IOException {
        String text = Files.readString(Path.of("src/main/java/PostageCounter.java"));
        Due.is("signs that are not 1 to 127", text.chars().filter(c -> c < 1 || c > 127).count(), 0);
        text = text.replaceAll("(?s)/\\*.*?\\*/", "").replaceAll("//[^\n]*", "").replaceAll("[ \t]+\n", "\n");
        lines = text.split("\n");
        for (String word : FORBIDDEN) {
            Due.is("rules 1 to 6: " + word, text.contains(word) ? 1 : 0, 0);
        }
        classes();
        libraryNames(text);
        staticFields();
        methods();
        names();
        calls();
        Due.end("LanguageTest");
    }

    private static void classes() {
        for (String line : lines) {
            Matcher m = CLASS.matcher(line);
            if (m.matches()) {
                ABOVE.put(m.group(3), m.group(4) == null ? "" : m.group(4));
                boolean inside = !m.group(3).equals("PostageCounter");
                String words = inside ? "private static (final )?" : "public final ";
                Due.is("rule 1: " + line.trim(), m.group(2).matches(words) ? 1 : 0, 1);
            }
        }
        Due.is("rule 11: some classes are found", ABOVE.size() > 1 ? 1 : 0, 1);
        Due.is("rule 11: " + ABOVE.size() + " classes", ABOVE.size() <= 12 ? 1 : 0, 1);
    }

    private static void libraryNames(String text) {
        Matcher m = Pattern.compile("\\b([A-Z]\\w*[a-z]\\w*)\\b").matcher(text);
        while (m.find()) {
            String name = m.group(1);
            Due.is("rule 4: " + name, LIBRARY.contains(name) || ABOVE.containsKey(name) ? 1 : 0, 1);
        }
        m = Pattern.compile("\\b(?:Math|Long|Integer)\\.(\\w+)").matcher(text);
        while (m.find()) {
            Due.is("rule 4: " + m.group(), Set.of("max", "min", "bitCount").contains(m.group(1)) ? 1 : 0, 1);
        }
    }

    private static void staticFields() {
        for (String line : lines) {
            if (line.contains("static ") && line.endsWith(";")) {
                boolean right = line.matches(" +(public|private) static final (int|long|boolean|char) [A-Z].* = .*;");
                Due.is("rule 5: " + line.trim(), right ? 1 : 0, 1);
            }
        }
    }

    private static void methods() {
        for (int i = 0; i < lines.length; i++) {
            Matcher m = HEADER.matcher(lines[i]);
            if (!m.matches() || NO_METHODS.contains(m.group(3))) {
                continue;
            }
            int end = i;
            while (!lines[end].equals(m.group(1) + "}")) {
                end++;
            }
            String name = m.group(3);
            int parameters = parts("(" + m.group(4) + ")", 0);
            Due.is("rule 11: lines of " + name, end - i < 60 ? 1 : 0, 1);
            Due.is("rule 11: parameters of " + name, parameters <= 7 ? 1 : 0, 1);
            String key = (ABOVE.containsKey(name) ? "new " : "") + name + " " + parameters;
            StringBuilder body = new StringBuilder(BODIES.getOrDefault(key, ""));
            for (int k = i + 1; k < end; k++) {
                body.append(lines[k].replace("super(", "new " + ABOVE.getOrDefault(name, "") + "(")).append('\n');
            }
            BODIES.put(key, body.toString());
        }
        Due.is("methods are found", BODIES.size() > 23 ? 1 : 0, 1);
    }

    private static void names() {
        Set<String> open = new TreeSet<>();
        for (String line : lines) {
            Matcher m = HEADER.matcher(line);
            if (m.matches() && m.group(2).contains("public ")) {
                open.add(m.group(3));
            }
        }
        Due.is("public methods and the constructor", open.size(), 24);
        for (String line : lines) {
            Matcher m = HEADER.matcher(line);
            if (m.matches() && !m.group(2).contains("public ") && !NO_METHODS.contains(m.group(3))) {
                Due.is("rule 1: " + line.trim(), open.contains(m.group(3)) ? 1 : 0, 0);
            }
        }
    }

    private static void calls() {
        for (Map.Entry<String, String> one : BODIES.entrySet()) {
            Set<String> called = new TreeSet<>();
            Matcher m = CALL.matcher(one.getValue());
            while (m.find()) {
                String key = (m.group(1) == null ? "" : "new ") + m.group(2) + " " + parts(one.getValue(), m.end() - 1);
                if (BODIES.containsKey(key)) {
                    called.add(key);
                }
            }
            METHODS.put(one.getKey(), called);
        }
        for (String method : METHODS.keySet()) {
            int depth = depth(method, new HashSet<>());
            Due.is("rule 11: " + method + " goes " + depth + " deep", depth <= 8 ? 1 : 0, 1);
        }
    }

    /** How many calls stand open at once; without recursion there is an end. */
    private static int depth(String method, Set<String> open) {
        if (!open.add(method)) {
            Due.is("rule 8: " + method + " comes back to itself", 1, 0);
            return 0;
        }
        Integer known = DEPTHS.get(method);
        int deepest = 0;
        if (known == null) {
            for (String one : METHODS.get(method)) {
                deepest = Math.max(deepest, depth(one, open));
            }
        }
        open.remove(method);
        DEPTHS.put(method, known == null ? deepest + 1 : known);
        return DEPTHS.get(method);
    }

    /** How many there are between an opening bracket and the one that closes it, with commas between them. */
    private static int parts(String text, int opening) {
        int level = 0;
        int commas = 0;
        int end = opening;
        do {
            char c = text.charAt(end);
            level += c == '(' || c == '[' ? 1 : c == ')' || c == ']' ? -1 : 0;
            commas += c == ',' && level == 1 ? 1 : 0;
            end++;
        } while (level > 0);
        return text.substring(opening + 1, end - 1).isBlank() ? 0 : commas + 1;
    }
}
