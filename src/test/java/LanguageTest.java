import java.io.IOException;
import java.nio.file.Files;
import java.nio.file.Path;
import java.util.List;
import java.util.regex.Matcher;
import java.util.regex.Pattern;

/** What of ../shared/LANGUAGE.md can be seen in the text of the program. */
public final class LanguageTest {
    private static final Check CHECK = new Check();
    private static final String[] RULED_OUT = {"\\bimport\\b", "\\bpackage\\b", "->", "::", "\\bfinally\\b", "\\btry\\b",
        "\\bcatch\\b", "\\bsynchronized\\b", "\\bassert\\b", "\\bvar\\b", "MAX_VALUE", "MIN_VALUE", "Exact\\b",
        "\\bSystem\\.(?!arraycopy)", "\\bThread\\b", "\\bRandom\\b", "static\\s*\\{", "\\bdouble\\b", "\\bfloat\\b",
        "\\bObject\\b", "\\bClass\\b"};
    private static final Pattern THROWN = Pattern.compile("throw new (\\w+)\\((\"[^\"]*\")?\\);");
    private static final Pattern HEAD = Pattern.compile("^ {4,8}(?! )[^=;]*\\(([^)]*)\\)[^;=]*\\{$");

    public static void main(String[] args) throws IOException {
        List<String> lines = Files.readAllLines(Path.of("src/main/java/WallDamp.java"));
        String code = String.join("\n", lines).replaceAll("(?s)/\\*.*?\\*/", "").replaceAll("//[^\n]*", "");
        for (String word : RULED_OUT) {
            CHECK.holds("not in the program: " + word, !Pattern.compile(word).matcher(code).find());
        }
        throwsAreWritten(code);
        methodsAreShort(lines);
        CHECK.end();
    }

    private static void throwsAreWritten(String code) {
        int written = 0;
        Matcher thrown = THROWN.matcher(code);
        while (thrown.find()) {
            written++;
            String name = thrown.group(1);
            CHECK.holds("thrown: " + name, name.equals("IllegalArgumentException") || name.equals("IllegalStateException"));
        }
        int all = code.split("\\bthrow\\b", -1).length - 1;
        CHECK.same("every throw makes its exception with a written text", written, all);
    }

    private static void methodsAreShort(List<String> lines) {
        int methods = 0;
        for (int at = 0; at < lines.size(); at++) {
            String line = lines.get(at);
            Matcher head = HEAD.matcher(line);
            if (head.matches()) {
                methods++;
                String close = line.substring(0, line.length() - line.stripLeading().length()) + "}";
                int end = at;
                while (end < lines.size() && !lines.get(end).equals(close)) {
                    end++;
                }
                CHECK.holds("at most sixty lines: " + line, end - at < 60);
                CHECK.holds("at most seven parameters: " + line, head.group(1).split(",").length <= 7);
            }
        }
        CHECK.holds("methods were found: " + methods, methods > 40);
    }
}
