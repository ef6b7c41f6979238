import java.io.IOException;
import java.lang.reflect.Field;
import java.lang.reflect.Method;
import java.lang.reflect.Modifier;
import java.nio.charset.StandardCharsets;
import java.nio.file.Files;
import java.nio.file.Path;
import java.util.regex.Matcher;
import java.util.regex.Pattern;

/** README.md tells how to use the class: its rows are carried out, so that they cannot go wrong unseen. */
public final class ReadmeTest {
    private static final Path README = Path.of("README.md");
    private static final Pattern ROW = Pattern.compile("archive\\.(\\w+)\\((.*?)\\);\\s+// (\\w+): .*");

    private static final Answers answers = new Answers();

    public static void main(String[] args) throws IOException, ReflectiveOperationException {
        String readme = Files.readString(README, StandardCharsets.US_ASCII);
        answers.topic("README.md");
        rows(readme);
        namesTheFace(readme);
        answers.holds("does not say how to run the tests", readme.contains("bash .ci/run"));
        answers.end();
    }

    private static void rows(String readme) throws ReflectiveOperationException {
        DrawerSlips archive = new DrawerSlips();
        for (String line : readme.split("\n")) {
            Matcher row = ROW.matcher(line);
            if (row.matches()) {
                long want = number(row.group(3));
                answers.due(line.trim(), want, answer(archive, row.group(1), row.group(2)));
            } else {
                answers.holds("a row without an answer: " + line, !line.startsWith("archive."));
            }
        }
    }

    private static int answer(DrawerSlips archive, String name, String arguments) throws ReflectiveOperationException {
        String[] words = arguments.isEmpty() ? new String[0] : arguments.split(", ");
        for (Method method : DrawerSlips.class.getMethods()) {
            if (method.getName().equals(name) && method.getParameterCount() == words.length) {
                Object[] values = new Object[words.length];
                for (int i = 0; i < words.length; i++) {
                    long value = number(words[i]);
                    values[i] = method.getParameterTypes()[i] == long.class ? (Object) value : (Object) (int) value;
                }
                return (int) method.invoke(archive, values);
            }
        }
        throw new NoSuchMethodException(name + " with " + words.length + " arguments");
    }

    /** The value of a number, or of a constant of the class. */
    private static long number(String word) throws ReflectiveOperationException {
        if (word.matches("(DrawerSlips\\.)?[A-Z_]+")) {
            return DrawerSlips.class.getField(word.replace("DrawerSlips.", "")).getInt(null);
        }
        return Long.decode(word.replace("L", ""));
    }

    private static void namesTheFace(String readme) {
        for (Method method : DrawerSlips.class.getDeclaredMethods()) {
            if (Modifier.isPublic(method.getModifiers())) {
                String call = "archive." + method.getName() + "(";
                answers.holds("does not show " + call, readme.contains(call));
            }
        }
        for (Field field : DrawerSlips.class.getFields()) {
            answers.holds("does not name " + field.getName(), readme.contains("`" + field.getName() + "`"));
        }
    }
}
