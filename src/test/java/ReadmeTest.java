import java.io.IOException;
import java.lang.reflect.Method;
import java.lang.reflect.Modifier;
import java.nio.file.Files;
import java.nio.file.Path;
import java.util.regex.Matcher;
import java.util.regex.Pattern;

/** README.md: every call of its example answers what stands behind it, and no call is left out. */
final class ReadmeTest {
    private static final Checks CHECKS = new Checks();
    private static final Pattern CALL = Pattern.compile("(?m)^x\\.(\\w+)\\((.*?)\\);(?: *// ([^\\s:]+))?.*$");

    public static void main(String[] args) throws IOException {
        String readme = Files.readString(Path.of("README.md"));
        Matcher seed = Pattern.compile("CarDrawer x = new CarDrawer\\((-?\\d+)\\);").matcher(readme);
        CHECKS.due("the example has a drawer", seed.find(), true);
        CarDrawer x = new CarDrawer(Long.parseLong(seed.group(1)));
        for (Matcher call = CALL.matcher(readme); call.find();) {
            example(x, call);
        }
        for (Method method : CarDrawer.class.getDeclaredMethods()) {
            if (Modifier.isPublic(method.getModifiers())) {
                calls(readme, method);
            }
        }
        CHECKS.due("README says how the tests are run", readme.contains("\n.ci/run\n"), true);
        CHECKS.end();
    }

    private static void example(CarDrawer x, Matcher call) {
        Method method = method(call.group(1));
        String[] words = call.group(2).isEmpty() ? new String[0] : call.group(2).split(", ");
        Object[] arguments = new Object[words.length];
        for (int i = 0; i < words.length; i++) {
            arguments[i] = argument(words[i], method.getParameterTypes()[i]);
        }
        try {
            Object answer = method.invoke(x, arguments);
            if (answer != null) {
                CHECKS.due(call.group(), answer.toString(), String.valueOf(call.group(3)));
            }
        } catch (ReflectiveOperationException thrown) {
            CHECKS.due(call.group(), thrown.toString(), "no exception");
        }
    }

    private static Method method(String name) {
        for (Method method : CarDrawer.class.getDeclaredMethods()) {
            if (method.getName().equals(name)) {
                return method;
            }
        }
        throw new IllegalStateException("README calls " + name);
    }

    private static Object argument(String word, Class<?> type) {
        if (type == boolean.class) {
            return Boolean.valueOf(word);
        }
        if (type == long.class) {
            return Long.valueOf(word);
        }
        return Integer.valueOf(word);
    }

    private static void calls(String readme, Method method) {
        String told = "| `" + method.getReturnType() + " " + method.getName() + "(";
        CHECKS.due("README tells of " + method, readme.contains(told), true);
        CHECKS.due("README's example has " + method.getName(), readme.contains("\nx." + method.getName() + "("), true);
    }
}
