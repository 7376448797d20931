import java.io.IOException;
import java.lang.reflect.Method;
import java.lang.reflect.Modifier;
import java.nio.file.DirectoryStream;
import java.nio.file.Files;
import java.nio.file.Path;
import java.util.Iterator;
import java.util.List;

/** README.md as the project stands: its example's answers, the calls, and the tests it names. */
public final class ReadmeTest {
    private static final Check CHECK = new Check();

    private final Iterator<String> lines;

    private ReadmeTest(List<String> example) {
        lines = example.iterator();
    }

    public static void main(String[] args) throws IOException {
        String readme = Files.readString(Path.of("README.md"));
        int start = readme.indexOf("```java\n");
        int end = readme.indexOf("```\n", start + 1);
        CHECK.due("README.md has an example", start >= 0 && end > start, true);
        if (start >= 0 && end > start) {
            new ReadmeTest(readme.substring(start, end).lines().skip(1).toList()).example();
        }
        for (Method method : GridDesk.class.getDeclaredMethods()) {
            if (Modifier.isPublic(method.getModifiers())) {
                names(readme, "| `" + method.getName() + "(");
            }
        }
        try (DirectoryStream<Path> tests = Files.newDirectoryStream(Path.of("src", "test", "java"))) {
            for (Path test : tests) {
                names(readme, "`" + test.getFileName().toString().replace(".java", "") + "`");
            }
        }
        names(readme, "    .ci/run\n");
        CHECK.end();
    }

    private static void names(String readme, String words) {
        CHECK.due("README.md names " + words.trim(), readme.contains(words), true);
    }

    private void example() {
        shown("GridDesk desk = new GridDesk();", "");
        GridDesk desk = new GridDesk();
        shown("desk.place(0, 10, 0);", desk.place(0, 10, 0));
        int a = desk.item();
        shown("int a = desk.item();", a);
        shown("desk.net(a, 0, -30);", desk.net(a, 0, -30));
        shown("desk.net(a, 1, 30);", desk.net(a, 1, 30));
        int b = desk.item();
        shown("int b = desk.item();", b);
        shown("desk.net(b, 1, -25);", desk.net(b, 1, -25));
        shown("desk.net(b, 0, 25);", desk.net(b, 0, 25));
        shown("desk.solve();", desk.solve());
        shown("desk.in(a);", desk.in(a));
        shown("desk.netOf(b, 0);", desk.netOf(b, 0));
        shown("desk.perform();", desk.perform());
        shown("desk.count(1);", desk.count(1));
        shown("desk.value(0);", desk.value(0));
        shown("desk.go(a);", desk.go(a));
        shown("desk.place(0, 1, 2);", desk.place(0, 1, 2));
        CHECK.due("more lines in README.md", lines.hasNext(), false);
    }

    /** The next line of the example must be this call, with its answer first in the comment. */
    private void shown(String call, Object answer) {
        String line = lines.hasNext() ? lines.next() : "";
        String[] parts = line.split("//", 2);
        String comment = parts.length < 2 ? "" : parts[1].split(":", 2)[0].trim();
        CHECK.due("README.md has '" + line + "' for " + call, parts[0].trim().equals(call), true);
        CHECK.due(line + " answered " + answer, comment.equals(String.valueOf(answer)), true);
    }
}
