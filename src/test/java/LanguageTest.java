import java.io.IOException;
import java.nio.file.Files;
import java.nio.file.Path;
import java.util.ArrayList;
import java.util.HashSet;
import java.util.LinkedHashMap;
import java.util.List;
import java.util.Map;
import java.util.Set;
import java.util.regex.Matcher;
import java.util.regex.Pattern;

/** The rules of LANGUAGE.md that the text of the program shows; FaceTest has those that the compiled class shows. */
public final class LanguageTest {
    private static final Set<String> RULED_OUT = Set.of("throw", "throws", "try", "catch", "synchronized", "assert", "import",
        "package", "volatile", "transient", "native", "var", "yield", "equals", "hashCode", "toString", "record", "while", "do",
        "super", "Object", "abstract", "protected", "strictfp", "sealed", "permits");
    private static final Set<String> LIBRARY = Set.of("Math.max", "Math.min");
    private static final int LONGEST_METHOD = 60, DEEPEST_CALL = 8, MOST_CLASSES = 12;

    private final String text;
    private final Map<String, String> bodies = new LinkedHashMap<>();

    private LanguageTest(String text) {
        this.text = text;
        Matcher head = Pattern.compile("(?m)^ +(?:public|private)[\\w \\[\\]]*?(\\w+)\\([^)]*\\) \\{$").matcher(text);
        while (head.find()) {
            bodies.merge(head.group(1), body(head.end() - 1), String::concat);
        }
    }

    public static void main(String[] args) throws IOException {
        String source = Files.readString(Path.of("src/main/java/LabelKernel.java"));
        Check.holds("only signs 1 to 127", source.chars().allMatch(c -> c >= 1 && c <= 127));
        String text = source.replaceAll("(?s)/\\*.*?\\*/", "").replaceAll("//.*", "");
        LanguageTest test = new LanguageTest(text);
        test.words();
        test.library();
        test.objectsAreMadeAtFirst();
        test.loopsEnd();
        test.methodsAreShort();
        test.callsAreNotDeep();
        Check.end();
    }

    private String body(int from) {
        int depth = 0;
        for (int at = from; at < text.length(); at++) {
            depth += text.charAt(at) == '{' ? 1 : text.charAt(at) == '}' ? -1 : 0;
            if (depth == 0) {
                return text.substring(from, at + 1);
            }
        }
        return "";
    }

    private static List<String> all(String pattern, String where) {
        List<String> all = new ArrayList<>();
        Matcher matcher = Pattern.compile(pattern).matcher(where);
        while (matcher.find()) {
            all.add(matcher.group(1));
        }
        return all;
    }

    private void words() {
        for (String word : all("\\b([A-Za-z]\\w*)\\b", text)) {
            Check.holds("rules 1 to 6: no " + word, !RULED_OUT.contains(word) && !word.endsWith("Exact"));
        }
        for (String sign : List.of("->", "::", "@", "\"", "...")) {
            Check.holds("rules 2 and 5: no " + sign, !text.contains(sign));
        }
        Check.due("rule 1: public classes", all("public (final class \\w+)", text).size(), 1);
        List<String> inside = all("((?:private |static |final )*class) ", text.substring(text.indexOf('{')));
        Check.holds("rule 2: the classes inside are static", inside.stream().allMatch(kind -> kind.contains("static")));
        Check.holds("rule 11: some twelve classes", inside.size() < MOST_CLASSES);
    }

    private void library() {
        for (String use : all("\\b([A-Z]\\w*\\.\\w+)", text)) {
            Check.holds("rule 4: " + use, LIBRARY.contains(use));
        }
        for (String type : all("\\b([A-Z][a-z]\\w*)", text)) {
            boolean own = text.contains("class " + type + " ");
            Check.holds("rule 3: " + type, own || type.equals("Math"));
        }
    }

    /** What no call makes need not be counted against the room of a run. */
    private void objectsAreMadeAtFirst() {
        for (Map.Entry<String, String> method : bodies.entrySet()) {
            boolean makes = Pattern.compile("\\bnew\\b").matcher(method.getValue()).find();
            Check.holds("rule 12: " + method.getKey() + " makes no object", !makes || method.getKey().equals("LabelKernel"));
        }
    }

    private void loopsEnd() {
        Pattern counted = Pattern.compile("int (\\w+) = [^;]+; \\1 (?:<|>=) [^;]+; \\1(?:\\+\\+|--)");
        int loops = 0;
        for (String head : all("\\bfor \\((.*)\\) \\{", text)) {
            Check.holds("rule 9: a counter against a bound: " + head, counted.matcher(head).matches());
            boolean up = head.contains(" < ") && head.endsWith("++");
            boolean down = head.contains(" >= ") && head.endsWith("--");
            Check.holds("rule 9: it goes to the bound: " + head, up || down);
            loops++;
        }
        Check.due("loops", all("\\b(for)\\b", text).size(), loops);
    }

    private void methodsAreShort() {
        Check.holds("methods were found", bodies.size() > 50);
        for (Map.Entry<String, String> method : bodies.entrySet()) {
            Check.holds("rule 11: " + method.getKey() + " is short", method.getValue().lines().count() <= LONGEST_METHOD);
        }
    }

    private void callsAreNotDeep() {
        for (String method : bodies.keySet()) {
            Check.holds("rules 8 and 11: calls of " + method, depth(method, new HashSet<>()) <= DEEPEST_CALL);
        }
    }

    /** How deep the calls of a method go; one that comes to itself again goes too deep. */
    private int depth(String method, Set<String> open) {
        if (!open.add(method)) {
            return DEEPEST_CALL + 1;
        }
        int deepest = 0;
        for (String called : all("\\b(\\w+)\\(", bodies.get(method))) {
            if (bodies.containsKey(called) && !called.equals("LabelKernel")) {
                deepest = Math.max(deepest, depth(called, open));
            }
        }
        open.remove(method);
        return deepest + 1;
    }
}
