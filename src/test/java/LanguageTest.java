import java.io.IOException;
import java.nio.file.Files;
import java.nio.file.Path;
import java.util.List;
import java.util.regex.Matcher;
import java.util.regex.Pattern;

/** What of LANGUAGE.md can be seen in the text of the class: signs, words that it leaves out, long methods. */
public final class LanguageTest {
    private static final String[] LEFT_OUT = {"->", "::", "\\bcatch\\b", "\\btry\\b", "\\bfinally\\b", "\\bsynchronized\\b", "\\bassert\\b",
        "\\bvolatile\\b", "Exact\\b", "\\bSystem\\.(?!arraycopy)", "\\bThread\\b", "\\bRandom\\b", "\\bpackage\\b", "\\bstatic \\{",
        "\\bprotected\\b", "\\bgetMessage\\b", "\\bhashCode\\b", "\\btoString\\b", "\\[\\]\\[\\]\\[\\]", "\\bvar\\b", "\\bObject\\b",
        "\\bimport (?!java\\.util\\.(Arrays|NoSuchElementException);)", "\\bthrow (?!new NoSuchElementException\\(\\);)"};
    private static final Pattern METHOD = Pattern.compile("\\s+(?:(?:private|public|static) )*[\\w\\[\\]]+ (\\w+)\\(.*\\{");
    private static final int MOST_LINES = 60;

    public static void main(String[] args) throws IOException {
        List<String> lines = Files.readAllLines(Path.of("src/main/java/RaceByLaps.java"));
        int methods = 0;
        for (int i = 0; i < lines.size(); i++) {
            signs(i + 1, lines.get(i));
            String code = lines.get(i).replaceAll("//.*|^\\s*/?\\*.*", "");
            for (String word : LEFT_OUT) {
                Matcher m = Pattern.compile(word).matcher(code);
                if (m.find()) Due.fail("line " + (i + 1) + " has " + m.group());
            }
            Matcher method = METHOD.matcher(code);
            if (!method.matches() || code.contains(" else ")) continue;
            methods++;
            if (length(lines, i) > MOST_LINES) Due.fail("line " + (i + 1) + ": " + method.group(1) + " is long");
        }
        Due.is("methods were found", methods > 100, true);
        Due.close();
    }

    private static void signs(int number, String line) {
        for (char c : line.toCharArray()) if (c > 126) Due.fail("line " + number + " has a sign above 126");
    }

    private static int length(List<String> lines, int begun) {
        int depth = 0;
        for (int i = begun; i < lines.size(); i++) {
            for (char c : lines.get(i).replaceAll("'.'", "").toCharArray()) depth += c == '{' ? 1 : c == '}' ? -1 : 0;
            if (depth == 0) return i - begun + 1;
        }
        return lines.size();
    }
}
