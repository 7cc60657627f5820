import java.io.IOException;
import java.lang.reflect.Constructor;
import java.lang.reflect.Field;
import java.lang.reflect.Method;
import java.lang.reflect.Modifier;
import java.nio.file.Files;
import java.nio.file.Path;
import java.util.ArrayList;
import java.util.Arrays;
import java.util.List;
import java.util.Set;
import java.util.TreeSet;
import java.util.regex.Matcher;
import java.util.regex.Pattern;

/** The face of the class is the document's and nothing more, and its file keeps to the rules that a text shows. */
public final class FaceTest {
    private static final List<String> FACE = List.of(
        "set(int, int)", "chord(int, int, int)", "takeOut(int)", "voice(int, int, int, int)", "silence(int)",
        "transpose(int)", "realise()", "read()", "of(int, int)", "voicing(int, int, int)", "count(int)",
        "parallel(int, int)", "ifRealised()", "nearest(int, int)", "ifVoiced(int, int, int, int)", "keys()",
        "put(long)", "wipe()", "fault()", "undo()", "save(int)", "restore(int)");
    private static final List<String> CONSTANTS = List.of("NO_SUCH", "BAD_VALUE", "BAD_TEXT", "TOO_MANY", "NOT_POSSIBLE",
        "NONE", "KEY", "SPAN", "LEAP");
    private static final Pattern FORBIDDEN = Pattern.compile(
        "\\b(throws?|try|catch|finally|synchronized|assert|import|package|while \\(true\\)|System|double|float)\\b|->|::|\\bMath\\.\\w+Exact\\b");

    private static final Check check = new Check("FaceTest");

    public static void main(String[] args) throws IOException {
        face();
        insideClasses();
        text(Files.readAllLines(Path.of("src/main/java/FiguredBasses.java")));
        check.end();
    }

    private static String told(Method method) {
        List<String> types = new ArrayList<>();
        for (Class<?> type : method.getParameterTypes()) {
            types.add(type.getName());
        }
        return method.getName() + "(" + String.join(", ", types) + ")";
    }

    private static void face() {
        check.holds("public and final", Modifier.isPublic(FiguredBasses.class.getModifiers()) && Modifier.isFinal(FiguredBasses.class.getModifiers()));
        Set<String> methods = new TreeSet<>();
        for (Method method : FiguredBasses.class.getDeclaredMethods()) {
            if (!Modifier.isPrivate(method.getModifiers())) {
                methods.add(told(method));
                check.holds(told(method) + " is a public method that returns int", Modifier.isPublic(method.getModifiers())
                    && !Modifier.isStatic(method.getModifiers()) && method.getReturnType() == int.class);
            } else {
                check.holds(told(method) + " bears a name of its own", FACE.stream().noneMatch(m -> m.startsWith(method.getName() + "(")));
            }
        }
        check.holds("methods " + methods, methods.equals(new TreeSet<>(FACE)));
        Set<String> constants = new TreeSet<>();
        for (Field field : FiguredBasses.class.getDeclaredFields()) {
            if (!Modifier.isPrivate(field.getModifiers())) {
                constants.add(field.getName());
            }
        }
        check.holds("constants " + constants, constants.equals(new TreeSet<>(CONSTANTS)));
        Constructor<?>[] constructors = FiguredBasses.class.getDeclaredConstructors();
        check.holds("one public constructor", constructors.length == 1 && Modifier.isPublic(constructors[0].getModifiers())
            && constructors[0].getParameterCount() == 0);
    }

    private static void insideClasses() {
        Class<?>[] inside = FiguredBasses.class.getDeclaredClasses();
        check.holds("at most twelve classes", inside.length < 12);
        for (Class<?> one : inside) {
            check.holds(one + " is static and not public", Modifier.isStatic(one.getModifiers()) && !Modifier.isPublic(one.getModifiers()));
            for (Method method : one.getDeclaredMethods()) {
                check.holds(one + ": " + method.getName() + " takes at most seven", method.getParameterCount() <= 7);
                check.holds(one + ": " + method.getName() + " bears a name of its own", FACE.stream().noneMatch(m -> m.startsWith(method.getName() + "(")));
            }
            for (Field field : one.getDeclaredFields()) {
                check.holds(one + ": " + field.getName() + " is final if it is static", !Modifier.isStatic(field.getModifiers()) || Modifier.isFinal(field.getModifiers()));
            }
            long fields = Arrays.stream(one.getDeclaredFields()).filter(f -> !Modifier.isStatic(f.getModifiers())).count();
            check.holds(one + ": at most twenty fields", fields <= 20);
        }
    }

    private static void text(List<String> lines) {
        int methodStart = 0;
        String indent = "";
        for (int i = 0; i < lines.size(); i++) {
            String line = lines.get(i);
            String code = line.replaceAll("//.*|^\\s*/?\\*.*", "");
            Matcher matcher = FORBIDDEN.matcher(code);
            check.holds("line " + (i + 1) + ": " + line, !matcher.find());
            check.holds("line " + (i + 1) + " is plain text", line.chars().allMatch(sign -> sign >= 32 && sign < 127));
            if (line.matches("( {4}| {8})\\w.*\\) \\{")) {
                methodStart = i;
                indent = line.replaceAll("\\w.*", "");
            }
            if (line.equals(indent + "}")) {
                check.holds("line " + (i + 1) + " ends a method of at most sixty lines", i - methodStart < 60);
                indent = "none";
            }
        }
    }
}
