import java.io.IOException;
import java.nio.file.Files;
import java.nio.file.Path;
import java.util.List;
import java.util.regex.Matcher;
import java.util.regex.Pattern;

/** What of LANGUAGE.md can be seen in the text of the class: words that it leaves out, lengths, signs. */
public final class LanguageTest {
    private static final String[] LEFT_OUT = {"->", "::", "\\bcatch\\b", "\\btry\\b", "\\bfinally\\b", "\\bsynchronized\\b", "\\bassert\\b",
        "\\bvolatile\\b", "Exact\\b", "\\bSystem\\.(?!arraycopy)", "\\bThread\\b", "\\bRandom\\b", "\\bpackage\\b", "static \\{",
        "\\bprotected\\b", "\\bgetMessage\\b", "\\bhashCode\\b", "\\btoString\\b", "\\blong\\b.*Exact", "\\[\\]\\[\\]\\[\\]", "\\bString\\.format\\b",
        "import (?!java\\.util\\.(Arrays|NoSuchElementException);)", "\\bnull\\b.*\\.", "\\bObject\\b", "\\bvar\\b"};

    public static void main(String[] args) throws IOException {
        List<String> lines = Files.readAllLines(Path.of("src/main/java/RaceByLaps.java"));
        int begun = 0;
        for (int i = 0; i < lines.size(); i++) {
            String line = lines.get(i);
            for (int c = 0; c < line.length(); c++) {
                if (line.charAt(c) > 126) Due.fail("line " + (i + 1) + " has a sign above 126");
            }
            String code = line.replaceAll("//.*|^\\s*/?\\*.*", "");
            for (String word : LEFT_OUT) {
                Matcher m = Pattern.compile(word).matcher(code);
                if (m.find()) Due.fail("line " + (i + 1) + " has " + m.group());
            }
            if (code.matches("\\s+(private |public |static )*[\\w\\[\\]]+ \\w+\\(.*\\).*\\{")) begun = i;
            if (code.matches(" {4}( {4})?\\}") && i - begun > 60 && !lines.get(begun).contains("class")) {
                Due.is("the method of line " + (begun + 1) + " is short", methodLength(lines, begun) <= 60, true);
            }
        }
        Due.close();
    }

    private static int methodLength(List<String> lines, int begun) {
        int depth = 0;
        for (int i = begun; i < lines.size(); i++) {
            for (char c : lines.get(i).toCharArray()) depth += c == '{' ? 1 : c == '}' ? -1 : 0;
            if (depth == 0) return i - begun + 1;
        }
        return 0;
    }
}
