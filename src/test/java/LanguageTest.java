import java.io.IOException;
import java.lang.reflect.Constructor;
import java.lang.reflect.Field;
import java.lang.reflect.Method;
import java.lang.reflect.Modifier;
import java.nio.file.Files;
import java.nio.file.Path;
import java.util.Set;
import java.util.TreeSet;
import java.util.regex.Matcher;
import java.util.regex.Pattern;

/** Those rules of LANGUAGE.md that can be told from the class's face and from its source. */
public final class LanguageTest {
    private static final Path SOURCE = Path.of("src/main/java/GauntletHall.java");
    private static final int MOST_LINES = 60, MOST_PARAMETERS = 7, MOST_FIELDS = 20, MOST_CLASSES = 12;
    private static final Check CHECK = new Check();

    public static void main(String[] args) throws IOException {
        face();
        classes();
        words(withoutCommentsAndTexts(Files.readString(SOURCE)));
        methodLengths();
        CHECK.finish();
    }

    private static void face() {
        Set<String> open = new TreeSet<>();
        Set<String> closed = new TreeSet<>();
        for (Method method : GauntletHall.class.getDeclaredMethods()) {
            if (!Modifier.isPrivate(method.getModifiers())) {
                dueIntsAlone(method);
            }
            (Modifier.isPrivate(method.getModifiers()) ? closed : open).add(method.getName()
                + (Modifier.isPrivate(method.getModifiers()) ? "" : method.getParameterCount()));
        }
        CHECK.dueText("face", String.join(" ", open), "back0 behind2 count1 dare2 fault0 fight2 first2 fits2 forget0 "
            + "glove2 hands2 hurl3 keep0 kinds1 last0 lay0 lies1 likely3 pass1 person2 ring1 safe3 seen3 sizes2 stretch1 "
            + "take1 time3 undo0 wear2 wipe0 write1");
        for (Class<?> inside : GauntletHall.class.getDeclaredClasses()) {
            for (Method method : inside.getDeclaredMethods()) {
                closed.add(method.getName());
            }
        }
        for (String name : closed) {
            CHECK.due("a private " + name + " beside a public one",
                open.stream().filter(o -> o.substring(0, o.length() - 1).equals(name)).count(), 0);
        }
        Set<String> constants = new TreeSet<>();
        for (Field field : GauntletHall.class.getDeclaredFields()) {
            if (!Modifier.isPrivate(field.getModifiers())) {
                constants.add(field.getName());
            }
        }
        CHECK.dueText("constants", String.join(" ", constants), "BAD FULL NO NONE");
        Constructor<?>[] made = GauntletHall.class.getDeclaredConstructors();
        CHECK.due("constructors", made.length, 1);
        CHECK.due("final and public", GauntletHall.class.getModifiers() & (Modifier.FINAL | Modifier.PUBLIC),
            Modifier.FINAL | Modifier.PUBLIC);
    }

    private static void dueIntsAlone(Method method) {
        CHECK.dueText("what " + method.getName() + " answers", method.getReturnType().getName(), "int");
        for (Class<?> type : method.getParameterTypes()) {
            CHECK.dueText("a number of " + method.getName(), type.getName(), "int");
        }
        CHECK.due(method.getName() + " public, of an object", method.getModifiers() & (Modifier.PUBLIC | Modifier.STATIC),
            Modifier.PUBLIC);
    }

    private static void classes() {
        Class<?>[] inside = GauntletHall.class.getDeclaredClasses();
        CHECK.due("few classes", inside.length < MOST_CLASSES ? 1 : 0, 1);
        look(GauntletHall.class);
        for (Class<?> one : inside) {
            CHECK.due(one + " static", Modifier.isStatic(one.getModifiers()) ? 1 : 0, 1);
            CHECK.due(one + " open", one.getModifiers() & (Modifier.PUBLIC | Modifier.PROTECTED), 0);
            look(one);
        }
    }

    private static void look(Class<?> one) {
        int fields = 0;
        for (Field field : one.getDeclaredFields()) {
            if (Modifier.isStatic(field.getModifiers())) {
                CHECK.due(field + " final", Modifier.isFinal(field.getModifiers()) ? 1 : 0, 1);
            } else {
                fields++;
            }
        }
        CHECK.due("fields of " + one, fields <= MOST_FIELDS ? 1 : 0, 1);
        for (Method method : one.getDeclaredMethods()) {
            CHECK.due("parameters of " + method, method.getParameterCount() <= MOST_PARAMETERS ? 1 : 0, 1);
        }
    }

    private static String withoutCommentsAndTexts(String source) {
        return source.replaceAll("(?s)/\\*.*?\\*/", "").replaceAll("//[^\n]*", "").replaceAll("\"[^\"\n]*\"", "\"\"");
    }

    private static void words(String code) {
        for (String word : new String[] {"throw", "throws", "try", "catch", "finally", "synchronized", "assert", "import",
            "package", "protected", "volatile", "native", "transient", "Object", "Exception", "Random", "Thread", "var",
            "equals", "hashCode", "toString", "double", "float"}) {
            CHECK.due("word " + word, Pattern.compile("\\b" + word + "\\b").matcher(code).find() ? 1 : 0, 0);
        }
        for (String sign : new String[] {"->", "::", "@"}) {
            CHECK.due("sign " + sign, code.contains(sign) ? 1 : 0, 0);
        }
        CHECK.due("while without a counter", code.contains("while") ? 1 : 0, 0);
        Matcher library = Pattern.compile("\\b(Math|Integer|Long|System|Arrays)\\.(\\w+)").matcher(code);
        Set<String> known = Set.of("Math.max", "Math.min", "Integer.bitCount", "System.arraycopy");
        for (int i = 0; i < code.length() && library.find(); i++) {
            CHECK.due("library " + library.group(), known.contains(library.group()) ? 1 : 0, 1);
        }
        CHECK.due("plain signs", code.chars().allMatch(c -> c < 127) ? 1 : 0, 1);
    }

    /** A method's head is told by its brace at the end of a line that begins with a type. */
    private static void methodLengths() throws IOException {
        String name = "";
        String indent = "";
        int lines = 0;
        Pattern head = Pattern.compile("^( +)(?!return|else|if|for|switch)[\\w\\[\\] ]+\\([^;]*\\{$");
        for (String line : Files.readAllLines(SOURCE)) {
            lines++;
            Matcher matcher = head.matcher(line);
            if (matcher.find()) {
                name = line.trim();
                indent = matcher.group(1);
                lines = 1;
            } else if (!name.isEmpty() && line.equals(indent + "}")) {
                CHECK.due("lines of " + name + " " + lines, lines <= MOST_LINES ? 1 : 0, 1);
                name = "";
            }
        }
    }
}
