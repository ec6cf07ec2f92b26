import java.lang.reflect.Constructor;
import java.lang.reflect.Field;
import java.lang.reflect.Method;
import java.lang.reflect.Modifier;
import java.util.Set;
import java.util.TreeSet;

/** The public face, and what LANGUAGE.md asks of the class's members. */
final class FaceTest {
    private static final Checks CHECKS = new Checks();

    public static void main(String[] args) {
        Set<String> due = new TreeSet<>(Set.of(
                "public CarDrawer(long)",
                "public int CarDrawer.draw(int,int)",
                "public long CarDrawer.part(int,int)",
                "public int CarDrawer.letter(int)",
                "public int CarDrawer.planted(int)",
                "public void CarDrawer.verdict(int,boolean)"));
        due.addAll(Set.of(
                "public int CarDrawer.shorter()",
                "public int CarDrawer.left(int)",
                "public boolean CarDrawer.minimal()",
                "public boolean CarDrawer.answers()",
                "public boolean CarDrawer.same(long,int,int)"));
        CHECKS.due("the face", face().toString(), due.toString());
        CHECKS.due("public final", Modifier.toString(CarDrawer.class.getModifiers()), "public final");
        CHECKS.due("it extends", CarDrawer.class.getSuperclass().getName(), "java.lang.Object");
        CHECKS.due("interfaces", CarDrawer.class.getInterfaces().length, 0);
        fields();
        classesInside();
        privateNames();
        CHECKS.end();
    }

    private static Set<String> face() {
        Set<String> face = new TreeSet<>();
        for (Constructor<?> constructor : CarDrawer.class.getDeclaredConstructors()) {
            face.add(constructor.toString());
        }
        for (Method method : CarDrawer.class.getDeclaredMethods()) {
            if (!Modifier.isPrivate(method.getModifiers())) {
                face.add(method.toString());
            }
        }
        return face;
    }

    private static void fields() {
        for (Field field : CarDrawer.class.getDeclaredFields()) {
            CHECKS.due(field + " is private", Modifier.isPrivate(field.getModifiers()), true);
            boolean changes = Modifier.isStatic(field.getModifiers()) && !Modifier.isFinal(field.getModifiers());
            CHECKS.due(field + " is static and changes", changes, false);
        }
    }

    private static void classesInside() {
        for (Class<?> inside : CarDrawer.class.getDeclaredClasses()) {
            int modifiers = inside.getModifiers();
            CHECKS.due(inside + " is static", Modifier.isStatic(modifiers), true);
            CHECKS.due(inside + " is seen outside", Modifier.isPublic(modifiers) || Modifier.isProtected(modifiers), false);
        }
    }

    private static void privateNames() {
        Set<String> shown = new TreeSet<>();
        for (Method method : CarDrawer.class.getMethods()) {
            shown.add(method.getName());
        }
        for (Method method : CarDrawer.class.getDeclaredMethods()) {
            if (Modifier.isPrivate(method.getModifiers())) {
                CHECKS.due(method + " bears a public name", shown.contains(method.getName()), false);
            }
        }
    }
}
