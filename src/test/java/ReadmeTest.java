import java.io.IOException;
import java.lang.reflect.Method;
import java.lang.reflect.Modifier;
import java.nio.file.DirectoryStream;
import java.nio.file.Files;
import java.nio.file.Path;
import java.util.regex.Matcher;
import java.util.regex.Pattern;

/** README.md is right: its example, the lines of its text, its table of marks, every call and every test named. */
public final class ReadmeTest {
    private static final Pattern MARK =
            Pattern.compile("\\| `(\\w+)` \\| (\\d+) \\| (\\d+) to (\\d+) \\| (\\d+) \\|");
    private static final Pattern LINE = Pattern.compile("(?m)^(?:phase|cycle|offset|break) [^;]*;");

    private ReadmeTest() {
    }

    public static void main(String[] args) throws IOException {
        String page = Files.readString(Path.of("README.md"));
        example(page);
        text(page);
        marks(page);
        calls(page);
        tests(page);
        Check.end();
    }

    private static void example(String page) {
        Check.due("the example is the one tested here",
                page.contains("lights.feed(1885888883, 1696608288, 809201768, 1634952480, 807416123);"), true);
        RingedLights lights = new RingedLights();
        lights.feed(1885888883, 1696608288, 809201768, 1634952480, 807416123);
        Check.due("load(20)", lights.load(20), 2);
        Check.due("call(1, false)", lights.call(1, false), true);
        Check.due("when(1)", lights.when(1), 10);
        lights.tick(10);
        Check.due("ring(0, 0)", lights.ring(0, 0), 1);
    }

    private static void text(String page) {
        StringBuilder lines = new StringBuilder("phase 0 0;");
        Matcher line = LINE.matcher(page);
        int found = 0;
        while (line.find()) {
            lines.append(line.group());
            found++;
        }
        Check.due("lines of a text", found, 4);
        RingedLights lights = Check.of(lines.toString());
        Check.due("many(2)", lights.many(2), 60);
        Check.due("many(3)", lights.many(3), 10);
        Check.due("brake(0, 2)", lights.brake(0, 2), 2);
        Check.due("marked(1, 5)", lights.marked(1, 5), 4);
    }

    private static void marks(String page) {
        Matcher mark = MARK.matcher(page);
        int found = 0;
        while (mark.find()) {
            int number = Integer.parseInt(mark.group(2));
            int least = Integer.parseInt(mark.group(3));
            int most = Integer.parseInt(mark.group(4));
            Check.due("the number of " + mark.group(1), number, found);
            RingedLights lights = Check.of("phase 0 0;");
            Check.due(mark.group(1) + " without", lights.marked(0, number), Integer.parseInt(mark.group(5)));
            Check.refused(mark.group(1) + " below", lights, lights.mark(0, number, least - 1), 1);
            Check.refused(mark.group(1) + " above", lights, lights.mark(0, number, most + 1), 1);
            lights = Check.of("phase 0 0 " + mark.group(1) + " " + most + ";");
            Check.due(mark.group(1) + " told", lights.mark(0, number, least), most);
            Check.due(mark.group(1) + " put", lights.marked(0, number), least);
            found++;
        }
        Check.due("marks", found, 10);
    }

    private static void calls(String page) {
        for (Method method : RingedLights.class.getDeclaredMethods()) {
            if (Modifier.isPublic(method.getModifiers())) {
                Check.due(method.getName() + " is named", page.contains("`" + method.getName() + "`"), true);
            }
        }
    }

    private static void tests(String page) throws IOException {
        try (DirectoryStream<Path> files = Files.newDirectoryStream(Path.of("src/test/java"), "*Test.java")) {
            for (Path file : files) {
                String name = file.getFileName().toString().replace(".java", "");
                Check.due(name + " is named", page.contains("`" + name + "`"), true);
            }
        }
    }
}
