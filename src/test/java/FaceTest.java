import java.io.IOException;
import java.lang.reflect.Constructor;
import java.lang.reflect.Field;
import java.lang.reflect.Method;
import java.lang.reflect.Modifier;
import java.nio.file.Files;
import java.nio.file.Path;
import java.util.Arrays;
import java.util.Set;
import java.util.TreeSet;
import java.util.regex.Pattern;

/** The document's public face and no more; and words that the language's rules leave out. */
public final class FaceTest {
    private static final Check CHECK = new Check("FaceTest");
    private static final Path SOURCE = Path.of("src/main/java/FeatureUnions.java");

    private static final Set<String> FACE = Set.of(
            "int pack(boolean)",
            "int feature(int, int, boolean, int)",
            "boolean root(int, boolean)",
            "int user(int, int, boolean, boolean, boolean, int)",
            "int asks(int, int)",
            "int turn(int, int, int, int)",
            "int run(int)",
            "int there(int, int)",
            "int live(int, int)",
            "int on(int, int)",
            "int reasons(int, int)",
            "int reason(int, int, int, int)",
            "int clash(int, int)",
            "int without(int, int)",
            "int left(int)");

    public static void main(String[] args) throws IOException {
        CHECK.due("NONE", FeatureUnions.NONE, -1);
        CHECK.due("the class is final", Modifier.isFinal(FeatureUnions.class.getModifiers()), true);
        methods();
        constructors();
        fields();
        words();
        CHECK.finish();
    }

    private static void methods() {
        Set<String> found = new TreeSet<>();
        Set<String> hidden = new TreeSet<>();
        for (Method method : FeatureUnions.class.getDeclaredMethods()) {
            if (Modifier.isPrivate(method.getModifiers())) {
                hidden.add(method.getName());
            } else {
                CHECK.due(method + " is public", Modifier.isPublic(method.getModifiers()), true);
                String types = Arrays.toString(method.getParameterTypes());
                found.add(method.getReturnType() + " " + method.getName()
                        + "(" + types.substring(1, types.length() - 1) + ")");
            }
        }
        CHECK.due("the methods " + found, found.equals(FACE), true);
        for (String signature : FACE) {
            String name = signature.substring(signature.indexOf(' ') + 1, signature.indexOf('('));
            CHECK.due("a private " + name, hidden.contains(name), false);
        }
    }

    private static void constructors() {
        Constructor<?>[] all = FeatureUnions.class.getDeclaredConstructors();
        CHECK.due("constructors", all.length, 1);
        CHECK.due("a constructor's parameters", all[0].getParameterCount(), 0);
        CHECK.due("a public constructor", Modifier.isPublic(all[0].getModifiers()), true);
    }

    private static void fields() {
        for (Field field : FeatureUnions.class.getDeclaredFields()) {
            boolean isNone = field.getName().equals("NONE");
            CHECK.due(field + " is private", Modifier.isPrivate(field.getModifiers()), !isNone);
            if (Modifier.isStatic(field.getModifiers())) {
                CHECK.due(field + " is final", Modifier.isFinal(field.getModifiers()), true);
            }
        }
    }

    private static void words() throws IOException {
        String source = Files.readString(SOURCE);
        String code = source.replaceAll("(?s)/\\*.*?\\*/", " ").replaceAll("//[^\n]*", " ");
        String[] refused = {"\\bthrows?\\b", "\\btry\\b", "\\bcatch\\b", "\\bsynchronized\\b", "\\bassert\\b",
            "\\bimport\\b", "\\bpackage\\b", "->", "::", "Exact\\b", "\\bprotected\\b"};
        for (String word : refused) {
            CHECK.due("the source has " + word, Pattern.compile(word).matcher(code).find(), false);
        }
    }
}
