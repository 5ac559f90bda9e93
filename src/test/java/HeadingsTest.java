import java.io.IOException;
import java.nio.file.Files;
import java.nio.file.Path;
import java.util.ArrayList;
import java.util.List;
import java.util.regex.Matcher;
import java.util.regex.Pattern;

/**
 * What the interface says ahead of the calls: each heading of the document stands in the program, and under it its
 * calls in the document's order. The arguments are the paths of the program and of the document.
 */
public final class HeadingsTest {
    private static final Pattern SENTENCE = Pattern.compile("Ahead of the calls (.*) the interface says: (---- .*)\\.");
    private static final Pattern NAME = Pattern.compile("`(\\w+)`");
    private static final Pattern METHOD = Pattern.compile(" {4}public (?!Iemotohall)\\w+ (\\w+)\\(.*");

    public static void main(String[] args) throws IOException {
        if (args.length < 2) {
            System.out.println("HeadingsTest: no document is named");
            return;
        }
        List<String> program = Files.readAllLines(Path.of(args[0]));
        Matcher said = SENTENCE.matcher(Files.readString(Path.of(args[1])));
        int headings = 0;
        while (said.find()) {
            headings++;
            List<String> due = new ArrayList<>();
            Matcher name = NAME.matcher(said.group(1));
            while (name.find()) {
                due.add(name.group(1));
            }
            List<String> got = callsUnder(program, said.group(2));
            if (!got.equals(due)) {
                Check.tell("under " + said.group(2) + " stand " + got + ", due are " + due);
            }
        }
        Check.is("headings of the document", headings, 5);
        Check.end("HeadingsTest");
    }

    /** The public methods between the first such heading and the next one. */
    private static List<String> callsUnder(List<String> program, String heading) {
        List<String> calls = new ArrayList<>();
        int from = program.indexOf("    // " + heading);
        for (int i = from + 1; from >= 0 && i < program.size() && !program.get(i).startsWith("    // ----"); i++) {
            Matcher method = METHOD.matcher(program.get(i));
            if (method.matches()) {
                calls.add(method.group(1));
            }
        }
        return calls;
    }
}
