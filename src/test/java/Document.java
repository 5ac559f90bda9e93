import java.io.IOException;
import java.io.UncheckedIOException;
import java.nio.file.Files;
import java.nio.file.Path;
import java.util.ArrayList;
import java.util.List;

/** The text of DOC.md, by its promises and sections. */
final class Document {
    static final int PROMISES = 29;
    static final int SECTIONS = 5;
    private final String text;

    Document(String path) {
        try {
            text = Files.readString(Path.of(path));
        } catch (IOException e) {
            throw new UncheckedIOException(e);
        }
    }

    boolean has(Says says) {
        String place = says.promise() > 0 ? promise(says.promise())
            : says.section() > 0 ? section(says.section()) : text;
        return place.contains(says.text());
    }

    private String promise(int number) {
        return between("## Promise " + number + ":", "\n## ");
    }

    private String section(int number) {
        return between("== " + number + ".", number < SECTIONS ? "\n== " : "\nA method that throws");
    }

    private String between(String start, String end) {
        int from = text.indexOf(start);
        int to = text.indexOf(end, from + start.length());
        return from < 0 || to < 0 ? "" : text.substring(from, to);
    }

    /** Each condition behind a 'Throws' of the promise. */
    List<String> conditions(int promise) {
        List<String> all = new ArrayList<>();
        for (String line : promise(promise).split("\n")) {
            if (line.startsWith("Throws ")) {
                all.add(line.substring(line.indexOf(" if ") + 4));
            }
        }
        return all;
    }

    List<String> sentences(int section) {
        List<String> all = new ArrayList<>();
        for (String line : section(section).split("\n")) {
            for (String sentence : line.strip().split("(?<=\\.) (?=[A-Z])")) {
                if (sentence.endsWith(".") && !sentence.startsWith("==")) {
                    all.add(sentence);
                }
            }
        }
        return all;
    }
}
