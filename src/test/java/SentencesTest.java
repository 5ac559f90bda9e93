import java.lang.reflect.Method;
import java.util.ArrayList;
import java.util.List;

/**
 * That the tests of single sentences leave none out: what they quote stands in the document, all that a 'Throws' of a
 * promise names is quoted, and something of each sentence of the sections is. The arguments are the paths of the
 * program and of the document; without the document there is nothing to compare with.
 */
public final class SentencesTest {
    private static final Class<?>[] TESTS = {
        PeopleBoundsTest.class, StepsBoundsTest.class, HousesBoundsTest.class, SecretsBoundsTest.class,
        UtensilsBoundsTest.class, GatheringsBoundsTest.class, AskingBoundsTest.class};

    private final Document document;
    private final List<Says> quotes = new ArrayList<>();

    private SentencesTest(String path) {
        document = new Document(path);
        for (Class<?> tests : TESTS) {
            for (Method test : Sentences.of(tests)) {
                quotes.add(test.getAnnotation(Says.class));
            }
        }
    }

    public static void main(String[] args) {
        if (args.length < 2) {
            System.out.println("SentencesTest: no document is named");
            return;
        }
        SentencesTest all = new SentencesTest(args[1]);
        all.quotesStandInTheDocument();
        for (int promise = 1; promise <= Document.PROMISES; promise++) {
            all.conditionsAreQuoted(promise);
        }
        for (int section = 1; section <= Document.SECTIONS; section++) {
            all.sentencesAreQuoted(section);
        }
        Check.end("SentencesTest, " + all.quotes.size() + " quotes");
    }

    private void quotesStandInTheDocument() {
        for (Says quote : quotes) {
            Check.is(Sentences.told(quote) + "stands there", document.has(quote), true);
        }
    }

    private void conditionsAreQuoted(int promise) {
        boolean isQuoted = false;
        for (Says quote : quotes) {
            isQuoted |= quote.promise() == promise;
        }
        Check.is("Promise " + promise + " is quoted", isQuoted, true);
        for (String condition : document.conditions(promise)) {
            String left = condition;
            for (Says quote : quotes) {
                if (quote.promise() == promise) {
                    left = left.replace(quote.text(), "");
                }
            }
            if (!left.matches("([,; ]|or|if)*")) {
                Check.tell("Promise " + promise + ", not quoted: " + left + " of: " + condition);
            }
        }
    }

    private void sentencesAreQuoted(int section) {
        for (String sentence : document.sentences(section)) {
            boolean isQuoted = false;
            for (Says quote : quotes) {
                isQuoted |= quote.section() == section && sentence.contains(quote.text());
            }
            Check.is("Section " + section + ", \"" + sentence + "\" is quoted", isQuoted, true);
        }
    }
}
