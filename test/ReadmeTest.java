import java.io.IOException;
import java.lang.reflect.Method;
import java.lang.reflect.Modifier;
import java.nio.file.Files;
import java.nio.file.Path;
import java.util.List;
import java.util.Set;
import java.util.TreeSet;
import java.util.regex.Matcher;
import java.util.regex.Pattern;

/** What README.md tells of the use of the class: the calls of its example, and those that its table lists. */
public final class ReadmeTest {
    private static final Pattern CALL = Pattern.compile("piece\\.(\\w+\\(.*?\\)); +// (-?\\d+|[A-Z_]+)(?::.*)?");
    private static final Pattern NAME = Pattern.compile("`(\\w+)`");

    private static final Check check = new Check("ReadmeTest");

    public static void main(String[] args) throws IOException {
        List<String> lines = Files.readAllLines(Path.of("README.md"));
        example(lines.stream().filter(line -> line.startsWith("piece.")).toList());
        table(lines.stream().filter(line -> line.startsWith("| `")).toList());
        check.end();
    }

    private static void example(List<String> lines) {
        check.holds("there is an example", !lines.isEmpty());
        Caller piece = new Caller();
        for (String line : lines) {
            Matcher told = CALL.matcher(line);
            if (told.matches()) {
                check.due(told.group(1), piece.call(told.group(1)), Caller.answer(told.group(2)));
            } else {
                check.holds("a call and its answer: " + line, false);
            }
        }
    }

    private static void table(List<String> rows) {
        Set<String> listed = new TreeSet<>();
        for (String row : rows) {
            Matcher names = NAME.matcher(row.split("\\|")[1]);
            while (names.find()) {
                listed.add(names.group(1));
            }
        }
        Set<String> methods = new TreeSet<>();
        for (Method method : FiguredBasses.class.getDeclaredMethods()) {
            if (Modifier.isPublic(method.getModifiers())) {
                methods.add(method.getName());
            }
        }
        check.holds("the table lists " + listed, listed.equals(methods));
    }
}
