import java.io.IOException;
import java.nio.file.Files;
import java.nio.file.Path;
import java.util.List;
import java.util.regex.Matcher;
import java.util.regex.Pattern;

/** The rules of LANGUAGE.md that can be seen in the text of the program; its path is the argument. */
public final class RulesTest {
    private static final String[] FORBIDDEN = {
        "\\bpackage\\b", "\\bimport\\b", "->", "::", "\\btry\\b", "\\bcatch\\b", "\\bfinally\\b", "\\bsynchronized\\b",
        "\\bassert\\b", "\\bprotected\\b", "\\bSystem\\b", "\\bObject\\b", "\\bString\\b", "\\bfloat\\b", "Exact\\(",
        "\\bhashCode\\b", "\\btoString\\b", "\\bMath\\.(?!min|max)", "\\bThread\\b", "\\bwhile\\b", "\\bdo\\b",
        "static \\{", "static (?!final|int|long|void|boolean|double)"};

    public static void main(String[] args) throws IOException {
        List<String> lines = Files.readAllLines(Path.of(args[0]));
        String code = withoutComments(String.join("\n", lines));
        for (String pattern : FORBIDDEN) {
            Matcher found = Pattern.compile(pattern).matcher(code);
            if (found.find()) {
                Check.tell("the program has " + found.group());
            }
        }
        Check.is("signs above 126", code.chars().filter(c -> c > 126).count(), 0);
        throwsAreWritten(code);
        methodsAreShort(lines);
        Check.is("at most twelve classes", Pattern.compile("\\bclass \\w+ \\{").matcher(code).results().count() <= 12, true);
        Check.end("RulesTest");
    }

    private static String withoutComments(String text) {
        return text.replaceAll("(?s)/\\*.*?\\*/", "").replaceAll("//[^\n]*", "");
    }

    private static void throwsAreWritten(String code) {
        Pattern due = Pattern.compile(
            "throw new (IllegalState|IllegalArgument|IndexOutOfBounds)Exception\\(\"[a-z0-9, ]+\"\\);");
        long all = Pattern.compile("\\bthrow\\b").matcher(code).results().count();
        Check.is("throws of a written text", due.matcher(code).results().count(), all);
    }

    private static void methodsAreShort(List<String> lines) {
        int start = -1;
        String end = "";
        for (int i = 0; i < lines.size(); i++) {
            String line = lines.get(i);
            boolean opens = line.matches("( {4}| {8})[\\w\\[\\] ]+\\(.*") && !line.endsWith(";");
            if (opens && start < 0 && !line.trim().matches("(if|for|switch)\\b.*")) {
                start = i;
                end = line.replaceAll("\\S.*", "}");
            } else if (start >= 0 && line.equals(end)) {
                Check.is("lines of the method at " + (start + 1) + " are at most 60", i - start < 60, true);
                start = -1;
            }
        }
    }
}
