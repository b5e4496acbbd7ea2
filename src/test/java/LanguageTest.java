import java.io.IOException;
import java.nio.file.Files;
import java.nio.file.Path;
import java.util.Collections;
import java.util.HashMap;
import java.util.List;
import java.util.Map;
import java.util.Set;
import java.util.TreeSet;
import java.util.regex.Matcher;
import java.util.regex.Pattern;

/** What of LANGUAGE.md can be seen in the text of the class: signs, words that it leaves out, long methods, deep calls. */
public final class LanguageTest {
    private static final String[] LEFT_OUT = {"->", "::", "\\bcatch\\b", "\\btry\\b", "\\bfinally\\b", "\\bsynchronized\\b", "\\bassert\\b",
        "\\bvolatile\\b", "Exact\\b", "\\bSystem\\.(?!arraycopy)", "\\bThread\\b", "\\bRandom\\b", "\\bpackage\\b", "\\bstatic \\{",
        "\\bprotected\\b", "\\bgetMessage\\b", "\\bhashCode\\b", "\\btoString\\b", "\\[\\]\\[\\]\\[\\]", "\\bvar\\b", "\\bObject\\b",
        "\\bimport (?!java\\.util\\.(Arrays|NoSuchElementException);)", "\\bthrow (?!new NoSuchElementException\\(\\);)"};
    private static final Pattern METHOD = Pattern.compile("\\s+(?:(?:private|public|static) )*[\\w\\[\\]]+ (\\w+)\\(.*\\{");
    private static final Pattern CALL = Pattern.compile("\\b(\\w+)\\(");
    private static final int MOST_LINES = 60;
    private static final int MOST_DEEP = 8;

    public static void main(String[] args) throws IOException {
        List<String> lines = Files.readAllLines(Path.of("src/main/java/RaceByLaps.java"));
        int methods = 0;
        Map<String, Set<String>> calls = new HashMap<>();
        for (int i = 0; i < lines.size(); i++) {
            signs(i + 1, lines.get(i));
            String code = lines.get(i).replaceAll("//.*|^\\s*/?\\*.*", "");
            for (String word : LEFT_OUT) {
                Matcher m = Pattern.compile(word).matcher(code);
                if (m.find()) Due.fail("line " + (i + 1) + " has " + m.group());
            }
            Matcher method = METHOD.matcher(code);
            if (!method.matches() || code.contains(" else ")) continue;
            methods++;
            int length = length(lines, i);
            if (length > MOST_LINES) Due.fail("line " + (i + 1) + ": " + method.group(1) + " is long");
            called(lines.subList(i + 1, i + length), calls.computeIfAbsent(method.group(1), k -> new TreeSet<>()));
        }
        Due.is("methods were found", methods > 100, true);
        for (String name : calls.keySet()) {
            if (depth(name, calls, 1) > MOST_DEEP) Due.fail("calls go more than eight deep from " + name);
        }
        Due.close();
    }

    private static void called(List<String> body, Set<String> into) {
        for (String line : body) {
            Matcher m = CALL.matcher(line.replaceAll("//.*|'.'|\\bnew \\w+\\(", ""));
            while (m.find()) into.add(m.group(1));
        }
    }

    /** Methods of one name count as one: this can be too much, never too little; who calls itself is too deep. */
    private static int depth(String name, Map<String, Set<String>> calls, int from) {
        int deepest = from;
        if (from > MOST_DEEP) return from;
        for (String next : calls.getOrDefault(name, Collections.emptySet())) {
            if (calls.containsKey(next)) deepest = Math.max(deepest, depth(next, calls, from + 1));
        }
        return deepest;
    }

    private static void signs(int number, String line) {
        for (char c : line.toCharArray()) if (c > 126) Due.fail("line " + number + " has a sign above 126");
    }

    private static int length(List<String> lines, int begun) {
        int depth = 0;
        for (int i = begun; i < lines.size(); i++) {
            for (char c : lines.get(i).replaceAll("'.'", "").toCharArray()) depth += c == '{' ? 1 : c == '}' ? -1 : 0;
            if (depth == 0) return i - begun + 1;
        }
        return lines.size();
    }
}
