import java.io.IOException;
import java.nio.charset.StandardCharsets;
import java.nio.file.Files;
import java.nio.file.Path;
import java.util.List;
import java.util.regex.Matcher;
import java.util.regex.Pattern;

/** What of ../shared/LANGUAGE.md can be seen by looking at the class's text (run in the project's folder). */
public final class LanguageTest {
    private static final String[] RULED_OUT = {
        "->", "::", "\\bcatch\\b", "\\btry\\b", "\\bfinally\\b", "\\bsynchronized\\b", "\\bassert\\b", "\\bpackage\\b",
        "\\bprotected\\b", "\\bstatic\\s*\\{", "\\bvar\\b", "\\bObject\\b", "\\bHashMap\\b", "\\bStringBuilder\\b",
        "Exact\\b", "\\.hashCode\\b", "\\.toString\\b", "\\bdouble\\b", "\\bfloat\\b", "while \\(true\\)", "for \\(;;",
        "System\\.(?!arraycopy)", "Math\\.(?!min|max|abs)", "Arrays\\.(?!fill|copyOf\\b)", "import (?!java\\.util\\.(Arrays|NoSuchElementException);)",
        "throw new (?!NoSuchElementException\\(\")",
    };

    public static void main(String[] args) throws IOException {
        Path file = Path.of("src/main/java/ModelShelf.java");
        String code = Files.readString(file, StandardCharsets.US_ASCII).replaceAll("(?s)/\\*.*?\\*/|//[^\n]*", "");
        for (String ruledOut : RULED_OUT) {
            Matcher matcher = Pattern.compile(ruledOut).matcher(code);
            Check.no("the class has " + ruledOut, matcher.find());
        }
        Matcher classes = Pattern.compile("\\bclass \\w+").matcher(code);
        Check.yes("at most twelve classes", classes.results().count() <= 12);
        methodsAreShort(List.of(code.split("\n")));
        callsAreNotDeep(new CallDepth(List.of(code.split("\n"))));
        Check.end();
    }

    private static void callsAreNotDeep(CallDepth depth) {
        Check.yes("the methods are found", depth.methods() > 60);
        Check.yes("calls go at most eight deep: " + depth.longest(), depth.longest().size() <= 8);
    }

    private static void methodsAreShort(List<String> lines) {
        Pattern head = Pattern.compile("^( {4}| {8})(\\w[\\w\\[\\] ]*\\s)?\\w+\\(.*\\).*\\{$");
        for (int i = 0; i < lines.size(); i++) {
            Matcher matcher = head.matcher(lines.get(i));
            if (matcher.matches() && !lines.get(i).trim().startsWith("if") && !lines.get(i).trim().startsWith("switch")) {
                int end = i;
                while (end < lines.size() && !lines.get(end).equals(matcher.group(1) + "}")) {
                    end++;
                }
                Check.yes("sixty lines at most: " + lines.get(i).trim(), end - i <= 60);
                Check.yes("seven parameters at most: " + lines.get(i).trim(), lines.get(i).split(",").length <= 7);
            }
        }
    }
}
