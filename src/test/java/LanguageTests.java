import java.io.IOException;
import java.nio.file.Files;
import java.nio.file.Path;
import java.util.List;
import java.util.Map;
import java.util.Set;
import java.util.TreeMap;
import java.util.TreeSet;
import java.util.regex.Matcher;
import java.util.regex.Pattern;

/** What can be seen of LANGUAGE.md in the text of the program, whose path is the argument. */
public final class LanguageTests {
    private static final String[] FORBIDDEN = {"throw", "throws", "try", "catch", "finally", "synchronized", "assert",
        "import", "package", "protected", "Object", "Exception", "Random", "Thread", "Exact", "\\w+Exact", "equals",
        "hashCode", "toString", "transient", "volatile", "native", "var", "yield", "Double", "Float",
        "Character", "Boolean", "StrictMath", "Objects", "nanoTime", "currentTimeMillis"};
    private static final String[] LIBRARY = {"Integer.bitCount", "Math.min", "Math.max", "System.arraycopy"};
    private static final int LONGEST_METHOD = 60;
    private static final int DEEPEST_CALLS = 8;

    private LanguageTests() {
    }

    public static void main(String[] args) throws IOException {
        Due due = new Due("LanguageTests");
        String text = Files.readString(Path.of(args[0]));
        String code = text.replaceAll("(?s)/\\*.*?\\*/", "").replaceAll("//.*", "");
        for (String word : FORBIDDEN) {
            due.holds("no " + word, !Pattern.compile("\\b" + word + "\\b").matcher(code).find());
        }
        due.holds("no lambda, no method reference", !code.contains("->") && !code.contains("::"));
        due.holds("no annotation", !code.contains("@"));
        due.holds("signs 1 to 126 alone", text.chars().allMatch(c -> c == '\n' || (c >= 32 && c <= 126)));
        Matcher library = Pattern.compile("\\b[A-Z]\\w*\\.\\w+").matcher(code);
        while (library.find()) {
            due.holds(library.group() + " is of the library", List.of(LIBRARY).contains(library.group()));
        }
        Matcher made = Pattern.compile("\\bnew \\w+").matcher(code);
        while (made.find()) {
            due.holds(made.group() + " is made in a constructor", isInConstructor(code, made.start()));
        }
        methods(due, code);
        depth(due, code);
        due.end();
    }

    /** The rows are made once, so that no call makes an object. */
    private static boolean isInConstructor(String code, int place) {
        Matcher head = Pattern.compile("(?m)^ {4,8}(?:public |private |static |final )*(\\w+ )?\\w+\\([^)]*\\) \\{")
                .matcher(code);
        boolean constructor = false;
        while (head.find() && head.start() < place) {
            constructor = head.group(1) == null;
        }
        return constructor;
    }

    private static void methods(Due due, String code) {
        String[] lines = code.split("\n");
        int begun = -1;
        String end = "";
        for (int i = 0; i < lines.length; i++) {
            Matcher head = Pattern.compile("^( {4,8})\\w.*\\).* \\{$").matcher(lines[i]);
            if (begun < 0 && head.find()) {
                begun = i;
                end = head.group(1) + "}";
            } else if (begun >= 0 && lines[i].equals(end)) {
                due.holds(lines[begun].trim() + " is short", i - begun < LONGEST_METHOD);
                begun = -1;
            }
        }
    }

    /** Methods are told by their names: two of one name count as one that calls all that both call. */
    private static void depth(Due due, String code) {
        Map<String, Set<String>> calls = new TreeMap<>();
        Matcher head = Pattern.compile("(?m)^( {4,8})(?:[\\w\\[\\]]+ )*(\\w+)\\([^)]*\\) \\{$").matcher(code);
        while (head.find()) {
            int end = code.indexOf("\n" + head.group(1) + "}", head.end());
            Matcher call = Pattern.compile("(?<!\\bMath\\.)\\b(\\w+)\\(").matcher(code.substring(head.end(), end));
            Set<String> called = calls.computeIfAbsent(head.group(2), name -> new TreeSet<>());
            while (call.find()) {
                called.add(call.group(1));
            }
        }
        due.holds("methods are found", calls.size() > 80 && calls.containsKey("told") && calls.containsKey("losePair"));
        for (String name : calls.keySet()) {
            due.holds(name + " calls " + DEEPEST_CALLS + " deep at most", deepest(calls, name, 1) <= DEEPEST_CALLS);
        }
    }

    /** How many calls stand open at once at the most; more than are allowed where one calls itself. */
    private static int deepest(Map<String, Set<String>> calls, String name, int open) {
        int most = open;
        for (String called : calls.get(name)) {
            if (calls.containsKey(called) && open <= DEEPEST_CALLS) {
                most = Math.max(most, deepest(calls, called, open + 1));
            }
        }
        return most;
    }
}
