import java.io.IOException;
import java.lang.reflect.Field;
import java.lang.reflect.Method;
import java.lang.reflect.Modifier;
import java.nio.file.Files;
import java.nio.file.Path;
import java.util.regex.Matcher;
import java.util.regex.Pattern;

/** What can be seen of the rules of ../shared/LANGUAGE.md in the source and in the class. */
public final class LanguageTest {
    private static final Path SOURCE = Path.of("src", "main", "java", "GridDesk.java");
    /** Each with its rule's number; stricter than the rules where GridDesk needs none of a kind. */
    private static final String[][] LEFT_OUT = {
        {"1", "\\bpackage\\b"}, {"4", "\\bimport\\b"}, {"4", "\\bjava\\s*\\."},
        {"2", "->"}, {"2", "::"}, {"4", "\\w+Exact\\b"}, {"4", "\\bSystem\\s*\\.(?!arraycopy\\b)"},
        {"5", "\\bstatic\\s*\\{"}, {"6", "\\b(try|catch|finally|throw|throws)\\b"},
        {"6", "\\b(synchronized|assert|volatile|native|transient)\\b"},
        {"6", "\\b(equals|hashCode|toString)\\b"}, {"9", "\\bwhile\\b|\\bdo\\b|;\\s*;"},
        {"13", "\\b(Thread|Random|Runtime|Class)\\b"}, {"3", "\\b(double|float|Object|var)\\b"},
    };
    private static final Check CHECK = new Check();

    public static void main(String[] args) throws IOException {
        CHECK.sentence("LANGUAGE.md");
        String source = Files.readString(SOURCE);
        String code = source.replaceAll("(?s)/\\*.*?\\*/", " ").replaceAll("//[^\\n]*", " ");
        for (String[] rule : LEFT_OUT) {
            Matcher matcher = Pattern.compile(rule[1]).matcher(code);
            String found = matcher.find() ? matcher.group() : "";
            CHECK.due("rule " + rule[0] + ", found '" + found + "'", found.length(), 0);
        }
        lengths(source);
        Class<?>[] inside = GridDesk.class.getDeclaredClasses();
        CHECK.due("rule 11, at most twelve classes", inside.length < 12, true);
        members(GridDesk.class);
        for (Class<?> one : inside) {
            members(one);
        }
        CHECK.end();
    }

    /** A method ends with the first brace that stands as far left as its first line. */
    private static void lengths(String source) {
        Pattern method = Pattern.compile("(?m)^( {4}| {8})(public|private)[^;=]*\\{$[\\s\\S]*?^\\1\\}$");
        Matcher matcher = method.matcher(source);
        int methods = 0;
        while (matcher.find()) {
            String text = matcher.group();
            if (text.contains(" class ")) {
                matcher.region(matcher.start() + text.indexOf('\n'), source.length());
                continue;
            }
            methods++;
            String first = text.substring(0, text.indexOf('\n')).trim();
            CHECK.due("rule 11, length of " + first, text.lines().count() <= 60, true);
        }
        CHECK.due("methods were found", methods > 20, true);
    }

    private static void members(Class<?> type) {
        int fields = 0;
        for (Field field : type.getDeclaredFields()) {
            if (Modifier.isStatic(field.getModifiers())) {
                CHECK.due("rule 5, " + field, constant(field), true);
            } else {
                fields++;
            }
        }
        CHECK.due("rule 11, fields of " + type, fields <= 20, true);
        for (Method method : type.getDeclaredMethods()) {
            CHECK.due("rule 11, " + method, method.getParameterCount() <= 7, true);
            CHECK.due("rule 6, " + method, method.getExceptionTypes().length, 0);
        }
    }

    private static boolean constant(Field field) {
        Class<?> type = field.getType();
        boolean plain = type == int.class || type == long.class || type == boolean.class
                || type == char.class || type == String.class;
        return plain && Modifier.isFinal(field.getModifiers());
    }
}
