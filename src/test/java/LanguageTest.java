import java.io.IOException;
import java.lang.reflect.Constructor;
import java.lang.reflect.Field;
import java.lang.reflect.Method;
import java.lang.reflect.Modifier;
import java.nio.file.Files;
import java.nio.file.Path;
import java.util.ArrayList;
import java.util.List;
import java.util.Set;
import java.util.TreeSet;
import java.util.regex.Matcher;
import java.util.regex.Pattern;

/** What can be seen from outside of LANGUAGE.md's rules: words of the source, and sizes. */
final class LanguageTest {
    private static final Checks CHECKS = new Checks();
    private static final Path SOURCE = Path.of("src/main/java/CarDrawer.java");
    private static final Set<String> STATIC_TYPES = Set.of(
            "int", "long", "boolean", "char", "java.lang.String", "[I", "[J", "[C", "[B");

    public static void main(String[] args) throws IOException {
        String source = Files.readString(SOURCE);
        String code = withoutCommentsAndTexts(source);
        CHECKS.test("rule 4: no library but Math", () -> names(code));
        CHECKS.test("rules 2 and 6: no lambda, nothing thrown or caught", () -> words(code));
        CHECKS.test("rule 5: static fields", LanguageTest::staticFields);
        CHECKS.test("rule 11: parameters, classes and fields", LanguageTest::counts);
        CHECKS.test("rule 11: short methods", () -> methodLengths(source));
        CHECKS.end();
    }

    private static String withoutCommentsAndTexts(String source) {
        return source.replaceAll("(?s)/\\*.*?\\*/|//[^\n]*", "").replaceAll("'(\\\\.|[^'])'|\"[^\"\n]*\"", "0");
    }

    private static void absent(String code, String regex) {
        Matcher found = Pattern.compile(regex).matcher(code);
        CHECKS.due(regex, found.find() ? found.group() : "", "");
    }

    private static void words(String code) {
        String none = "package import throw throws try catch finally synchronized assert";
        for (String word : none.split(" ")) {
            absent(code, "\\b" + word + "\\b");
        }
        absent(code, "->|::|@");
        absent(code, "static\\s*\\{");
        absent(code, "new\\s+\\w+\\([^()]*\\)\\s*\\{");
        absent(code, "\\bwhile\\s*\\(\\s*true|for\\s*\\([^;]*;\\s*;");
    }

    /** Names in capitals alone are constants. */
    private static void names(String code) {
        Set<String> own = new TreeSet<>(Set.of("CarDrawer", "Math"));
        for (Class<?> inside : CarDrawer.class.getDeclaredClasses()) {
            own.add(inside.getSimpleName());
        }
        Matcher name = Pattern.compile("\\b[A-Z]\\w*[a-z]\\w*").matcher(code);
        while (name.find()) {
            CHECKS.due(name.group() + " is known", own.contains(name.group()), true);
        }
        absent(code, "Math\\.(?!min\\b|max\\b|abs\\b)\\w+");
        absent(code, "\\bjava\\.");
    }

    private static List<Class<?>> classes() {
        List<Class<?>> classes = new ArrayList<>(List.of(CarDrawer.class.getDeclaredClasses()));
        classes.add(CarDrawer.class);
        return classes;
    }

    private static void staticFields() {
        for (Class<?> one : classes()) {
            for (Field field : one.getDeclaredFields()) {
                if (Modifier.isStatic(field.getModifiers())) {
                    CHECKS.due(field + " is final", Modifier.isFinal(field.getModifiers()), true);
                    CHECKS.due(field + " has a type for it", STATIC_TYPES.contains(field.getType().getName()), true);
                }
            }
        }
    }

    private static void counts() {
        CHECKS.due("at most twelve classes", classes().size() <= 12, true);
        for (Class<?> one : classes()) {
            int fields = 0;
            for (Field field : one.getDeclaredFields()) {
                fields += Modifier.isStatic(field.getModifiers()) ? 0 : 1;
            }
            CHECKS.due(one + ": at most twenty fields", fields <= 20, true);
            for (Method method : one.getDeclaredMethods()) {
                CHECKS.due(method + ": at most seven parameters", method.getParameterCount() <= 7, true);
            }
            for (Constructor<?> constructor : one.getDeclaredConstructors()) {
                CHECKS.due(constructor + ": at most seven parameters", constructor.getParameterCount() <= 7, true);
            }
        }
    }

    /** Methods stand four or eight blanks from the margin, and so do their ends. */
    private static void methodLengths(String source) {
        Matcher method = Pattern.compile("(?m)^( {4}| {8})(?! |}|if|for|while|switch)[^\n;]*\\) \\{\n(?s:.*?)\n\\1\\}$").matcher(source);
        int met = 0;
        while (method.find()) {
            met++;
            String text = method.group().strip();
            CHECKS.due(text.lines().findFirst().get() + " has sixty lines at most", text.lines().count() <= 60, true);
        }
        CHECKS.due("methods and constructors met", met, written());
    }

    /** A class inside has a constructor in the source if it takes something; others are the compiler's. */
    private static int written() {
        int written = 0;
        for (Class<?> one : classes()) {
            written += one.getDeclaredMethods().length;
            for (Constructor<?> constructor : one.getDeclaredConstructors()) {
                written += constructor.getParameterCount() > 0 ? 1 : 0;
            }
        }
        return written;
    }
}
