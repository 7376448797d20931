import java.lang.reflect.Constructor;
import java.lang.reflect.Field;
import java.lang.reflect.Method;
import java.lang.reflect.Modifier;
import java.util.TreeSet;

/** The public face is the document's, and no other member of the class can be seen. */
public final class FaceTest {
    private static final String[] FACE = {
        "boolean go(int)",
        "boolean in(int)",
        "boolean net(int,int,long)",
        "boolean place(int,long,long)",
        "int count(int)",
        "int item()",
        "int perform()",
        "int solve()",
        "long netOf(int,int)",
        "long value(int)",
    };

    public static void main(String[] args) {
        Check check = new Check();
        int modifiers = GridDesk.class.getModifiers();
        check.due("class is public and final", modifiers, Modifier.PUBLIC | Modifier.FINAL);
        constructors(check);
        methods(check);
        for (Field field : GridDesk.class.getDeclaredFields()) {
            check.due(field + " is private", Modifier.isPrivate(field.getModifiers()), true);
        }
        for (Class<?> inside : GridDesk.class.getDeclaredClasses()) {
            check.due(inside + " is static", Modifier.isStatic(inside.getModifiers()), true);
            check.due(inside + " is public", Modifier.isPublic(inside.getModifiers()), false);
        }
        check.end();
    }

    private static void constructors(Check check) {
        Constructor<?>[] all = GridDesk.class.getDeclaredConstructors();
        check.due("constructors", all.length, 1);
        for (Constructor<?> one : all) {
            check.due("its parameters", one.getParameterCount(), 0);
            check.due("it is public", Modifier.isPublic(one.getModifiers()), true);
        }
    }

    private static void methods(Check check) {
        TreeSet<String> seen = new TreeSet<>();
        TreeSet<String> names = new TreeSet<>();
        for (Method method : GridDesk.class.getDeclaredMethods()) {
            if (!Modifier.isPrivate(method.getModifiers())) {
                seen.add(signature(method));
                names.add(method.getName());
            }
        }
        TreeSet<String> due = new TreeSet<>(java.util.List.of(FACE));
        check.due("face " + seen, seen.equals(due), true);
        for (Method method : GridDesk.class.getDeclaredMethods()) {
            if (Modifier.isPrivate(method.getModifiers())) {
                check.due(method + " has a name of the face", names.contains(method.getName()), false);
            }
        }
    }

    private static String signature(Method method) {
        StringBuilder text = new StringBuilder(method.getReturnType().getName());
        text.append(' ').append(method.getName()).append('(');
        String comma = "";
        for (Class<?> type : method.getParameterTypes()) {
            text.append(comma).append(type.getName());
            comma = ",";
        }
        return text.append(')').toString();
    }
}
