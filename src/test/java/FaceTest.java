import java.lang.reflect.Constructor;
import java.lang.reflect.Field;
import java.lang.reflect.Method;
import java.lang.reflect.Modifier;
import java.util.Set;
import java.util.TreeSet;

/** The public face, and what LANGUAGE.md asks of the class's members. */
final class FaceTest {
    private static final Checks CHECKS = new Checks();

    public static void main(String[] args) {
        Set<String> due = new TreeSet<>(Set.of(
                "public CarDrawer(long)",
                "public int CarDrawer.draw(int,int)",
                "public long CarDrawer.part(int,int)",
                "public int CarDrawer.letter(int)",
                "public int CarDrawer.planted(int)",
                "public void CarDrawer.verdict(int,boolean)"));
        due.addAll(Set.of(
                "public int CarDrawer.shorter()",
                "public int CarDrawer.left(int)",
                "public boolean CarDrawer.minimal()",
                "public boolean CarDrawer.answers()",
                "public boolean CarDrawer.same(long,int,int)"));
        CHECKS.due("the face", face().toString(), due.toString());
        CHECKS.due("public final", Modifier.toString(CarDrawer.class.getModifiers()), "public final");
        fields();
        CHECKS.end();
    }

    private static Set<String> face() {
        Set<String> face = new TreeSet<>();
        for (Constructor<?> constructor : CarDrawer.class.getDeclaredConstructors()) {
            face.add(constructor.toString());
        }
        for (Method method : CarDrawer.class.getDeclaredMethods()) {
            if (!Modifier.isPrivate(method.getModifiers())) {
                face.add(method.toString());
            }
        }
        return face;
    }

    private static void fields() {
        for (Field field : CarDrawer.class.getDeclaredFields()) {
            CHECKS.due(field + " is private", Modifier.isPrivate(field.getModifiers()), true);
            boolean changes = Modifier.isStatic(field.getModifiers()) && !Modifier.isFinal(field.getModifiers());
            CHECKS.due(field + " is static and changes", changes, false);
        }
        for (Class<?> inside : CarDrawer.class.getDeclaredClasses()) {
            CHECKS.due(inside + " is static", Modifier.isStatic(inside.getModifiers()), true);
        }
    }
}
