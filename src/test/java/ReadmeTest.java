import java.io.IOException;
import java.lang.reflect.Method;
import java.nio.file.Files;
import java.nio.file.Path;
import java.util.HashMap;
import java.util.Map;
import java.util.regex.Matcher;
import java.util.regex.Pattern;

/** Makes the calls of README.md's examples, one after another, and holds the answers told beside them. */
public final class ReadmeTest {
    private static final Check CHECK = new Check("ReadmeTest");
    private static final Path README = Path.of("README.md");
    private static final String NEW_OBJECT = "FeatureUnions x = new FeatureUnions();";
    private static final Pattern CALL = Pattern.compile("(?:int (\\w+) = )?x\\.(\\w+)\\((.*?)\\);\\s*(.*)");
    private static final Pattern ANSWER = Pattern.compile("// (-?\\d+|true|false)(?::.*)?");

    private static final Map<String, Integer> NUMBERS = new HashMap<>();
    private static FeatureUnions x = null;
    private static int answers = 0;

    public static void main(String[] args) throws IOException, ReflectiveOperationException {
        boolean inExample = false;
        for (String line : Files.readAllLines(README)) {
            if (line.startsWith("```")) {
                inExample = line.equals("```java");
            } else if (inExample) {
                follow(line);
            }
        }
        CHECK.due("there are answers in README.md", answers > 0, true);
        CHECK.finish();
    }

    private static void follow(String line) throws ReflectiveOperationException {
        if (line.equals(NEW_OBJECT)) {
            x = new FeatureUnions();
            return;
        }
        Matcher call = CALL.matcher(line);
        CHECK.due("\"" + line + "\" is a call of an object", x != null && call.matches(), true);
        if (x == null || !call.matches()) {
            return;
        }
        Object got = answerOf(call.group(2), call.group(3).split(", "));
        if (call.group(1) != null && got instanceof Integer number) {
            NUMBERS.put(call.group(1), number);
        }
        Matcher answer = ANSWER.matcher(call.group(4));
        if (answer.matches()) {
            answers++;
            CHECK.due("\"" + line + "\" as README.md tells (got " + got + ")",
                    got.toString().equals(answer.group(1)), true);
        }
    }

    private static Object answerOf(String name, String[] words) throws ReflectiveOperationException {
        Class<?>[] types = new Class<?>[words.length];
        Object[] values = new Object[words.length];
        for (int i = 0; i < words.length; i++) {
            boolean isFlag = words[i].equals("true") || words[i].equals("false");
            types[i] = isFlag ? boolean.class : int.class;
            values[i] = isFlag ? (Object) words[i].equals("true") : (Object) numberOf(words[i]);
        }
        Method method = FeatureUnions.class.getMethod(name, types);
        return method.invoke(x, values);
    }

    private static int numberOf(String word) {
        return NUMBERS.containsKey(word) ? NUMBERS.get(word) : Integer.parseInt(word);
    }
}
