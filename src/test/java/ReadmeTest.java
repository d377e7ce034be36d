import java.io.IOException;
import java.lang.reflect.Method;
import java.lang.reflect.Modifier;
import java.nio.file.Files;
import java.nio.file.Path;
import java.util.Set;
import java.util.TreeSet;
import java.util.regex.Matcher;
import java.util.regex.Pattern;

/** What README.md says that calls answer: each block of Java by a new object. */
final class ReadmeTest {
    private static final Check CHECK = new Check("ReadmeTest");
    private static final Pattern BLOCK = Pattern.compile("(?s)```java\n(.*?)```");
    private static final Pattern CALL = Pattern.compile("x\\.((\\w+)\\(.*?\\)); +// (-?\\d+|[A-Z]+)\\b.*");

    public static void main(String[] args) throws IOException {
        Set<String> shown = new TreeSet<>();
        Matcher blocks = BLOCK.matcher(Files.readString(Path.of("README.md")));
        while (blocks.find()) {
            Run run = new Run(CHECK);
            for (String line : blocks.group(1).split("\n")) {
                Matcher call = CALL.matcher(line);
                if (call.matches()) {
                    run.calls(call.group(1) + " = " + call.group(3));
                    shown.add(call.group(2));
                } else {
                    CHECK.that("a call and its answer, or a new object: " + line,
                        line.startsWith("InsidePlaces x = new InsidePlaces();"));
                }
            }
        }
        for (Method method : InsidePlaces.class.getDeclaredMethods()) {
            if (Modifier.isPublic(method.getModifiers())) {
                CHECK.that("README.md shows " + method.getName(), shown.contains(method.getName()));
            }
        }
        CHECK.end();
    }
}
