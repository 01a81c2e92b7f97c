import java.io.IOException;
import java.lang.reflect.Field;
import java.lang.reflect.Method;
import java.lang.reflect.Modifier;
import java.nio.file.Files;
import java.nio.file.Path;
import java.util.ArrayList;
import java.util.List;
import java.util.regex.Matcher;
import java.util.regex.Pattern;

/** Holds README.md to the class: the calls of its example, its methods and its constants. */
final class ReadmeTest {
    private static final Path README = Path.of("README.md");
    private static final Pattern LINE = Pattern.compile(
        "(?m)^(?:type\\(desk, \"([^\"]*)\"\\);|desk\\.(\\w+)\\((.*?)\\);\\s*// (-?\\d+)\\b.*)$");
    private static final Pattern ANY_LINE = Pattern.compile("(?m)^(?:type\\(desk|desk\\.)");
    private static final Due DUE = new Due();

    public static void main(String[] args) throws IOException, ReflectiveOperationException {
        String text = Files.readString(README);
        example(text);
        methods(text);
        constants(text);
        DUE.end();
    }

    private static void example(String text) throws ReflectiveOperationException {
        AchromatDesk desk = new AchromatDesk();
        Matcher line = LINE.matcher(text);
        int lines = 0;
        while (line.find()) {
            lines++;
            if (line.group(1) != null) {
                line.group(1).chars().forEach(desk::append);
            } else {
                String call = line.group(2) + "(" + line.group(3) + ")";
                DUE.due(call, answer(desk, line.group(2), line.group(3)), Long.parseLong(line.group(4)));
            }
        }
        // A line that LINE does not know would else be passed over.
        DUE.due("the lines that were read", lines, ANY_LINE.matcher(text).results().count());
        DUE.isTrue("there is an example", lines > 0);
    }

    private static long answer(AchromatDesk desk, String name, String list) throws ReflectiveOperationException {
        Method method = methodOf(name);
        Class<?>[] types = method.getParameterTypes();
        String[] words = list.isEmpty() ? new String[0] : list.split(", ");
        Object[] values = new Object[words.length];
        for (int at = 0; at < words.length; at++) {
            values[at] = value(types[at], words[at]);
        }
        return (long) method.invoke(desk, values);
    }

    private static Object value(Class<?> type, String word) {
        if (type == boolean.class) {
            return Boolean.valueOf(word);
        }
        long number = Long.parseLong(word.replace("L", ""));
        if (type == int.class) {
            return Math.toIntExact(number);
        }
        return number;
    }

    private static Method methodOf(String name) {
        for (Method method : AchromatDesk.class.getDeclaredMethods()) {
            if (method.getName().equals(name) && Modifier.isPublic(method.getModifiers())) {
                return method;
            }
        }
        throw new IllegalArgumentException("README.md calls a method that is none: " + name);
    }

    private static void methods(String text) {
        int found = 0;
        for (Method method : AchromatDesk.class.getDeclaredMethods()) {
            if (Modifier.isPublic(method.getModifiers())) {
                found++;
                DUE.isTrue("README.md has a row for " + method, rowOf(method).matcher(text).find());
            }
        }
        DUE.due("rows of methods", Pattern.compile("(?m)^\\| `\\w+\\(").matcher(text).results().count(), found);
    }

    private static Pattern rowOf(Method method) {
        List<String> parameters = new ArrayList<>();
        for (Class<?> type : method.getParameterTypes()) {
            parameters.add(type.getSimpleName() + " \\w+");
        }
        return Pattern.compile(
            "(?m)^\\| `" + method.getName() + "\\(" + String.join(", ", parameters) + "\\)` \\| ");
    }

    private static void constants(String text) throws ReflectiveOperationException {
        for (Field field : AchromatDesk.class.getFields()) {
            DUE.isTrue("README.md has a row for " + field.getName(),
                text.contains("\n| `" + field.getName() + "` | " + field.getLong(null) + " | "));
        }
        DUE.due("rows of constants",
            Pattern.compile("(?m)^\\| `[A-Z_]+` \\| ").matcher(text).results().count(),
            AchromatDesk.class.getFields().length);
    }
}
