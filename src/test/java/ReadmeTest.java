import java.io.IOException;
import java.lang.reflect.InvocationTargetException;
import java.lang.reflect.Method;
import java.lang.reflect.Modifier;
import java.nio.file.Files;
import java.nio.file.Path;
import java.util.ArrayList;
import java.util.List;
import java.util.regex.Matcher;
import java.util.regex.Pattern;

/** That README.md holds: its example answers what it says, it names each call, and the files that it names are there. */
public final class ReadmeTest {
    private static final Pattern CALL = Pattern.compile("hall\\.(\\w+)\\(([^)]*)\\); *// ((?:throws )?[^\\s:]+)(:.*)?");
    private static final Pattern FILE = Pattern.compile("`((?:src/|\\.ci/)[\\w./]+|\\w+\\.md)`");
    private static final Pattern TEST = Pattern.compile("`(\\w+Test)`");

    public static void main(String[] args) throws IOException {
        Path place = Path.of("README.md");
        String text = Files.readString(place);
        exampleAnswersWhatItSays(text);
        eachCallIsNamed(text);
        for (String file : found(FILE, text)) {
            Check.is("README.md names " + file + ", which is there", Files.exists(Path.of(file)), true);
        }
        for (String test : found(TEST, text)) {
            Path file = Path.of("src/test/java/" + test + ".java");
            Check.is("README.md names " + test + ", which is there", Files.exists(file), true);
        }
        Check.end("ReadmeTest");
    }

    private static void exampleAnswersWhatItSays(String text) {
        Iemotohall hall = new Iemotohall();
        int calls = 0;
        for (String line : text.split("\n")) {
            if (!line.startsWith("hall.")) {
                continue;
            }
            calls++;
            Matcher call = CALL.matcher(line);
            if (!call.matches()) {
                Check.tell("not read: " + line);
                continue;
            }
            String got = answer(hall, call.group(1), call.group(2));
            if (!got.equals(call.group(3))) {
                Check.tell(line + " answered " + got);
            }
        }
        Check.is("README.md has an example", calls > 0, true);
    }

    private static String answer(Iemotohall hall, String name, String arguments) {
        for (Method method : Iemotohall.class.getMethods()) {
            if (method.getName().equals(name)) {
                return answer(hall, method, arguments.split(", "));
            }
        }
        return "no such call";
    }

    private static String answer(Iemotohall hall, Method method, String[] arguments) {
        Object[] values = new Object[arguments.length];
        for (int i = 0; i < values.length; i++) {
            values[i] = arguments[i].matches("true|false")
                ? (Object) Boolean.valueOf(arguments[i]) : (Object) Integer.valueOf(arguments[i]);
        }
        try {
            return String.valueOf(method.invoke(hall, values));
        } catch (InvocationTargetException e) {
            return "throws " + e.getCause().getClass().getSimpleName();
        } catch (IllegalAccessException e) {
            return "not to be called";
        }
    }

    private static void eachCallIsNamed(String text) {
        for (Method method : Iemotohall.class.getDeclaredMethods()) {
            if (Modifier.isPublic(method.getModifiers())) {
                Check.is("README.md names " + method.getName(), text.contains("`" + method.getName() + "`"), true);
            }
        }
    }

    private static List<String> found(Pattern pattern, String text) {
        List<String> all = new ArrayList<>();
        Matcher matcher = pattern.matcher(text);
        while (matcher.find()) {
            all.add(matcher.group(1));
        }
        return all;
    }
}
