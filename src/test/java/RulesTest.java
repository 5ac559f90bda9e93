import java.io.IOException;
import java.nio.file.Files;
import java.nio.file.Path;
import java.util.List;
import java.util.regex.Matcher;
import java.util.regex.Pattern;

/** The rules of LANGUAGE.md that can be seen in the text of the program; its path is the argument. */
public final class RulesTest {
    private static final String[] FORBIDDEN = {
        "\\bpackage\\b", "\\bprotected\\b",
        "\\bimport (?!java\\.util\\.(ArrayList|List|Iterator|Arrays|NoSuchElementException);)[^;]*",
        "::", "(?m)^(?!\\s*(case|default)\\b).*->",
        "\\bfinally\\b", "\\bsynchronized\\b", "\\bassert\\b", "\\bvolatile\\b", "\\bnative\\b",
        "\\bSystem\\.(?!arraycopy)\\w+", "\\bObject\\b", "\\bThread\\b", "\\bRuntime\\b", "Exact\\(",
        "\\bMath\\.(random|sqrt|pow|exp|log|sin|cos|tan|ceil|floor\\b|round|rint|hypot|cbrt)",
        "\\bhashCode\\(\\) \\{", "\\bString toString\\(", "\\bboolean equals\\(",
        "\\bstatic \\{", "\\bstatic (?!final\\b)[\\w<>\\[\\]]+ \\w+ ?[=;]", "extends \\w*(Exception|Error)\\b"};

    public static void main(String[] args) throws IOException {
        List<String> lines = Files.readAllLines(Path.of(args[0]));
        String code = withoutComments(String.join("\n", lines));
        for (String pattern : FORBIDDEN) {
            Matcher found = Pattern.compile(pattern).matcher(code);
            if (found.find()) {
                Check.tell("the program has " + found.group());
            }
        }
        Check.is("signs above 127", code.chars().filter(c -> c > 127).count(), 0);
        throwsAreWritten(code);
        parametersAreFew(code);
        methodsAreShort(lines);
        Pattern type = Pattern.compile("\\b(class|record|enum|interface) \\w+[^;(]*\\{");
        Check.is("at most some twelve classes", type.matcher(code).results().count() <= 13, true);
        Check.end("RulesTest");
    }

    private static String withoutComments(String text) {
        return text.replaceAll("(?s)/\\*.*?\\*/", "").replaceAll("//[^\n]*", "");
    }

    /** Rule 6. */
    private static void throwsAreWritten(String code) {
        Pattern due = Pattern.compile("throw new (IllegalState|IllegalArgument|IndexOutOfBounds|Arithmetic|"
            + "UnsupportedOperation|NoSuchElement|Runtime)(Exception)\\((\"[^\"]*\")?\\);");
        long all = Pattern.compile("\\bthrow\\b").matcher(code).results().count();
        Check.is("throws of a written text", due.matcher(code).results().count(), all);
    }

    /** Rule 11: seven at most. */
    private static void parametersAreFew(String code) {
        Matcher heads = Pattern.compile("\\w+ \\w+\\(([^()]*)\\)[^;{()]*\\{").matcher(code);
        while (heads.find()) {
            Check.is("parameters of " + heads.group(), heads.group(1).split(",").length <= 7, true);
        }
    }

    /** Rule 11: some sixty lines. */
    private static void methodsAreShort(List<String> lines) {
        int start = -1;
        String end = "";
        for (int i = 0; i < lines.size(); i++) {
            String line = lines.get(i);
            boolean opens = line.matches("( {4}| {8})[\\w\\[\\] ]+\\(.*") && !line.endsWith(";");
            if (opens && start < 0 && !line.trim().matches("(if|for|switch|while|do)\\b.*")) {
                start = i;
                end = line.replaceAll("\\S.*", "}");
            } else if (start >= 0 && line.equals(end)) {
                Check.is("lines of the method at " + (start + 1) + " are at most 60", i - start < 60, true);
                start = -1;
            }
        }
    }
}
