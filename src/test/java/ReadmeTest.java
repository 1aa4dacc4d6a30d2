import java.io.IOException;
import java.lang.reflect.Method;
import java.lang.reflect.Modifier;
import java.nio.file.Files;
import java.nio.file.Path;
import java.util.ArrayList;
import java.util.List;
import java.util.regex.Matcher;
import java.util.regex.Pattern;

/** The examples of README.md answer what stands behind them, and README.md names each method of the class. */
public final class ReadmeTest extends Runs {
    private static final Pattern NEW_OBJECT = Pattern.compile("HedgeClips h = new HedgeClips\\(\\);( +//.*)?");
    private static final Pattern TEXT = Pattern.compile("for \\(char c : \"(.*)\"\\.toCharArray\\(\\)\\) h\\.append\\(c\\);");
    private static final Pattern ANSWER = Pattern.compile("h\\.(\\w+\\(.*?\\)); +// (NONE|-?\\d+)(: .*)?");
    private static final Pattern EXCEPTION =
            Pattern.compile("h\\.(\\w+\\(.*?\\)); +// throws (IndexOutOfBounds|IllegalArgument|IllegalState)Exception");

    /** The row of a run that an example's line tells. */
    private static String row(String line) {
        Matcher text = TEXT.matcher(line);
        if (text.matches()) {
            return "text " + text.group(1);
        }
        Matcher answer = ANSWER.matcher(line);
        if (answer.matches()) {
            return withoutL(answer.group(1)) + " = " + answer.group(2);
        }
        Matcher exception = EXCEPTION.matcher(line);
        if (exception.matches()) {
            String name = exception.group(2).replaceAll("OutOfBounds|Illegal", "");
            return withoutL(exception.group(1)) + " ! " + name;
        }
        throw new AssertionError("README.md has a line that can't be tested: " + line);
    }

    private static String withoutL(String call) {
        return call.replaceAll("(\\d)L\\b", "$1");
    }

    /** Runs each example on an object of its own; returns how many there are. */
    private static int runExamples(List<String> lines) {
        int examples = 0;
        for (int i = 0; i < lines.size(); i++) {
            if (lines.get(i).equals("```java")) {
                i++;
                if (!NEW_OBJECT.matcher(lines.get(i)).matches()) {
                    throw new AssertionError("an example that makes no object: " + lines.get(i));
                }
                List<String> rows = new ArrayList<>();
                for (i++; !lines.get(i).equals("```"); i++) {
                    rows.add(row(lines.get(i)));
                }
                examples++;
                sentence("README.md, example " + examples);
                run(rows.toArray(new String[0]));
            }
        }
        return examples;
    }

    private static void checkNames(String readme) {
        for (Method method : HedgeClips.class.getDeclaredMethods()) {
            boolean isFace = Modifier.isPublic(method.getModifiers());
            if (isFace && !Pattern.compile("\\b" + method.getName() + "\\(").matcher(readme).find()) {
                throw new AssertionError("README.md does not name " + method.getName());
            }
        }
    }

    public static void main(String[] args) throws IOException {
        String readme = Files.readString(Path.of("README.md"));
        checkNames(readme);
        if (runExamples(readme.lines().toList()) == 0) {
            throw new AssertionError("README.md has no example");
        }
        end();
    }
}
