import java.io.IOException;
import java.lang.reflect.Field;
import java.lang.reflect.Method;
import java.lang.reflect.Modifier;
import java.nio.charset.StandardCharsets;
import java.nio.file.Files;
import java.nio.file.Path;
import java.util.Arrays;
import java.util.List;
import java.util.Set;
import java.util.TreeSet;
import java.util.regex.Matcher;
import java.util.regex.Pattern;

/** The public face, and the rules of the language that the class and its text show. */
public final class RulesTest {
    private static final Path PROGRAM = Path.of("src/main/java/DrawerSlips.java");
    private static final List<String> FACE = List.of(
        "int all(int)", "int carryOut()", "int count(int)", "int fault()", "int joined(int, int, int)",
        "int log(int, int)", "int next(int)", "int of(int, int)", "int pass(int)", "int put(long)",
        "int restore(int)", "int save(int)", "int serve(int)", "int servedIn(int)", "int set(int, int)",
        "int slip(int, int, int)", "int tear(int)", "int undo()", "int waiting(int, int)", "int wipe()");
    private static final String[] CODES = {"NO_SUCH", "BAD_VALUE", "BAD_TEXT", "TOO_MANY", "NOT_POSSIBLE", "NONE"};
    private static final String[] SETTINGS = {"OLD_READ", "OLD_WRITE", "BATCH", "STARVE", "MOVE", "SERVE"};
    private static final String[] BARRED = {
        "\\bthrow\\b", "\\btry\\b", "\\bcatch\\b", "\\bsynchronized\\b", "\\bassert\\b", "\\bimport\\b", "\\bpackage\\b",
        "->", "::", "@", "\\bthrows\\b", "\\bSystem\\b", "\\bObject\\b", "\\bnew\\s+\\w+\\s*\\([^)]*\\)\\s*\\{"
    };
    private static final int MOST_CLASSES = 12, MOST_FIELDS = 20, MOST_PARAMETERS = 7, MOST_LINES = 60;

    private static final Answers answers = new Answers();

    public static void main(String[] args) throws IOException, ReflectiveOperationException {
        constants();
        methods();
        hiddenMembers();
        classesInside();
        text(Files.readString(PROGRAM, StandardCharsets.US_ASCII));
        answers.end();
    }

    private static void constants() throws ReflectiveOperationException {
        answers.topic("the constants");
        for (int i = 0; i < 6; i++) {
            answers.due(CODES[i], -1 - i, DrawerSlips.class.getField(CODES[i]).getInt(null));
            answers.due(SETTINGS[i], i, DrawerSlips.class.getField(SETTINGS[i]).getInt(null));
        }
        answers.due("how many", 12, DrawerSlips.class.getFields().length);
        for (Field field : DrawerSlips.class.getFields()) {
            answers.holds(field + " is not a constant", Modifier.toString(field.getModifiers()).equals("public static final")
                && field.getType() == int.class);
        }
    }

    private static void methods() {
        answers.topic("the face");
        Set<String> found = new TreeSet<>();
        for (Method method : DrawerSlips.class.getDeclaredMethods()) {
            if (Modifier.isPublic(method.getModifiers())) {
                found.add(method.toString().replace("public ", "").replace("DrawerSlips.", "").replace(",", ", "));
            }
        }
        answers.holds("its methods are " + found, found.equals(new TreeSet<>(FACE)));
        answers.holds("the class is not public and final",
            Modifier.toString(DrawerSlips.class.getModifiers()).equals("public final"));
        answers.due("constructors", 1, DrawerSlips.class.getConstructors().length);
        answers.due("all constructors", 1, DrawerSlips.class.getDeclaredConstructors().length);
        answers.due("without parameters", 0, DrawerSlips.class.getConstructors()[0].getParameterCount());
    }

    private static void hiddenMembers() {
        answers.topic("what is not of the face");
        Set<String> names = new TreeSet<>();
        FACE.forEach(face -> names.add(face.substring(4, face.indexOf('('))));
        for (Class<?> each : allClasses()) {
            for (Method method : each.getDeclaredMethods()) {
                boolean isHidden = Modifier.isPrivate(method.getModifiers());
                answers.holds(method + " is not private", isHidden || each == DrawerSlips.class && names.contains(method.getName()));
                answers.holds(method + " has a public one's name", !isHidden || !names.contains(method.getName()));
                answers.holds(method + " has too many parameters", method.getParameterCount() <= MOST_PARAMETERS);
            }
            for (Field field : each.getDeclaredFields()) {
                int modifiers = field.getModifiers();
                answers.holds(field + " is not private", Modifier.isPrivate(modifiers) || Modifier.isPublic(modifiers)
                    && each == DrawerSlips.class);
                answers.holds(field + " is static and may change", !Modifier.isStatic(modifiers) || Modifier.isFinal(modifiers));
            }
        }
    }

    private static List<Class<?>> allClasses() {
        List<Class<?>> all = new java.util.ArrayList<>(List.of(DrawerSlips.class));
        all.addAll(Arrays.asList(DrawerSlips.class.getDeclaredClasses()));
        return all;
    }

    private static void classesInside() {
        answers.topic("the classes inside");
        answers.holds("too many classes", allClasses().size() <= MOST_CLASSES);
        for (Class<?> each : allClasses()) {
            if (each != DrawerSlips.class) {
                answers.holds(each + " is not static", Modifier.isStatic(each.getModifiers()));
                answers.due("classes within " + each, 0, each.getDeclaredClasses().length);
            }
            long fields = Arrays.stream(each.getDeclaredFields()).filter(f -> !Modifier.isStatic(f.getModifiers())).count();
            answers.holds(each + " has too many fields", fields <= MOST_FIELDS);
        }
    }

    private static void text(String program) {
        answers.topic("the text");
        String code = program.replaceAll("(?s)/\\*.*?\\*/", "").replaceAll("//[^\n]*", "");
        for (String barred : BARRED) {
            Matcher matcher = Pattern.compile(barred).matcher(code);
            answers.holds("bears " + barred, !matcher.find());
        }
        int start = -1;
        String[] lines = program.split("\n");
        for (int i = 0; i < lines.length; i++) {
            if (lines[i].matches(" +(public|private).*\\) \\{")) {
                start = i;
            } else if (start >= 0 && lines[i].matches(lines[start].replaceAll("\\S.*", "") + "}")) {
                answers.holds(lines[start].trim() + " is too long", i - start < MOST_LINES);
                start = -1;
            }
        }
    }
}
