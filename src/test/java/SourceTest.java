import java.io.IOException;
import java.nio.file.Files;
import java.nio.file.Path;
import java.util.List;
import java.util.regex.Matcher;
import java.util.regex.Pattern;

/** What of LANGUAGE.md can be seen in the program's text: nothing that it rules out, and short methods. */
public final class SourceTest {
    private static final Path PROGRAM = Path.of("src/main/java/FordWord.java");
    private static final int LONGEST_METHOD = 60;
    private static final String[] RULED_OUT = {
        "^\\s*package\\b", "^\\s*import\\b", "->", "::", "\\bcatch\\b", "\\btry\\b", "\\bfinally\\b", "\\bthrow\\b",
        "\\bsynchronized\\b", "\\bassert\\b", "\\bstatic\\s*\\{", "\\bdouble\\b", "\\bfloat\\b", "\\bObject\\b",
        "\\bExact\\w*\\(", "\\w+Exact\\(", "\\bSystem\\.(?!arraycopy\\b)", "\\bMath\\.(?!max\\b|min\\b)",
        "\\bInteger\\.(?!bitCount\\b)",
        "\\b(equals|hashCode|toString)\\s*\\(", "\"\\s*\\+", "\\+\\s*\"", "\\bnew\\s+Random\\b", "\\bThread\\b"};

    private static final Due DUE = new Due();

    private SourceTest() {
    }

    public static void main(String[] args) throws IOException {
        List<String> lines = Files.readAllLines(PROGRAM);
        DUE.isTrue("the program has lines", lines.size() > 100);
        for (int at = 0; at < lines.size(); at++) {
            String code = withoutComment(lines.get(at));
            for (String rule : RULED_OUT) {
                Matcher found = Pattern.compile(rule).matcher(code);
                DUE.isTrue("line " + (at + 1) + " has " + rule, !found.find());
            }
            for (int c = 0; c < lines.get(at).length(); c++) {
                DUE.isTrue("line " + (at + 1) + " has plain signs", lines.get(at).charAt(c) < 127);
            }
        }
        checkLengths(lines);
        DUE.end();
    }

    private static String withoutComment(String line) {
        String bare = line.strip();
        if (bare.startsWith("*") || bare.startsWith("/*")) {
            return "";
        }
        int comment = line.indexOf("//");
        return comment < 0 ? line : line.substring(0, comment);
    }

    /** A method begins on a line with a parameter list and a brace, and ends on a brace of its own depth. */
    private static void checkLengths(List<String> lines) {
        Pattern begin = Pattern.compile("^(\\s++)(?!if|for|while|switch|\\}|else|do\\b)[\\w\\[\\] ]+\\([^()]*\\) \\{$");
        for (int at = 0; at < lines.size(); at++) {
            Matcher head = begin.matcher(lines.get(at));
            if (!head.matches()) {
                continue;
            }
            String end = head.group(1) + "}";
            int last = at;
            while (last < lines.size() - 1 && !lines.get(last).equals(end)) {
                last++;
            }
            DUE.isTrue(lines.get(at).strip() + " is short", last - at < LONGEST_METHOD);
        }
    }
}
