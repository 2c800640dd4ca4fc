import java.io.IOException;
import java.lang.reflect.Field;
import java.lang.reflect.Method;
import java.lang.reflect.Modifier;
import java.nio.charset.StandardCharsets;
import java.nio.file.Files;
import java.nio.file.Path;
import java.util.ArrayList;
import java.util.List;
import java.util.Set;
import java.util.TreeSet;
import java.util.regex.Matcher;
import java.util.regex.Pattern;

/**
 * What can be seen of LANGUAGE.md's rules without reading: the class uses far less than they leave, so a word that is
 * not listed here is to be looked up there before it is listed.
 */
public final class LanguageTest {
    private static final Set<String> TYPES = Set.of("BottleLoop", "State", "Past", "Trade", "Text", "Order", "System",
            "Math", "IndexOutOfBoundsException", "IllegalArgumentException", "IllegalStateException");
    private static final Set<String> LIBRARY = Set.of("System.arraycopy", "Math.min");
    private static final Set<String> FORBIDDEN = Set.of("package", "import", "try", "catch", "finally", "synchronized",
            "assert", "volatile", "transient", "native", "strictfp", "var", "protected");
    private static final int MOST_LINES = 60;
    private static final int MOST_PARAMETERS = 7;
    private static final int MOST_CLASSES = 12;
    private static final int MOST_FIELDS = 20;

    private final Checks checks = new Checks();
    private final String source;

    private LanguageTest(String text) {
        source = text;
    }

    public static void main(String[] args) throws IOException {
        Path path = Path.of("src/main/java/BottleLoop.java");
        LanguageTest test = new LanguageTest(Files.readString(path, StandardCharsets.UTF_8));
        test.words();
        test.texts();
        test.methodsAreShort();
        test.classes();
        test.checks.end();
    }

    /** The source without comments, texts and signs in quotes. */
    private String code() {
        return source.replaceAll("(?s)/\\*.*?\\*/", " ").replaceAll("//[^\n]*", " ")
                .replaceAll("\"[^\"\n]*\"", "\"\"").replaceAll("'.'", "' '");
    }

    private Set<String> found(String pattern) {
        Set<String> words = new TreeSet<>();
        Matcher matcher = Pattern.compile(pattern).matcher(code());
        while (matcher.find()) {
            words.add(matcher.group());
        }
        return words;
    }

    private void words() {
        checks.begin("rules 3, 4, 6 and 13");
        Set<String> types = found("\\b[A-Z]+[a-z]\\w*");
        types.removeAll(TYPES);
        checks.same("types that are not listed", types, "[]");
        Set<String> library = found("\\b(?:System|Math)\\s*\\.\\s*\\w+");
        library.removeAll(LIBRARY);
        checks.same("library calls that are not listed", library, "[]");
        Set<String> words = found("\\b[a-z]+\\b");
        words.retainAll(FORBIDDEN);
        checks.same("words that no rule leaves", words, "[]");
        checks.same("annotations", found("@\\s*\\w+"), "[]");
    }

    private void texts() {
        checks.begin("rules 2, 4, 5 and 10");
        checks.same("lambdas and method references", found("->|::"), "[]");
        checks.same("static blocks", found("\\bstatic\\s*\\{"), "[]");
        checks.same("joined texts", found("\"\\s*\\+|\\+\\s*\""), "[]");
        checks.same("signs beyond 126", source.chars().anyMatch(c -> c > 126), false);
    }

    private void methodsAreShort() {
        checks.begin("rule 11, lines");
        Pattern head = Pattern.compile("^( +)(?:public|private)[^=;]*\\(.*");
        String indent = null;
        String name = "";
        int lines = 0;
        for (String row : source.split("\n")) {
            Matcher matcher = head.matcher(row);
            if (indent == null && matcher.matches()) {
                indent = matcher.group(1);
                name = row.trim();
                lines = 0;
            }
            lines++;
            if (indent != null && row.equals(indent + "}")) {
                checks.same(name + " has at most " + MOST_LINES + " lines", lines <= MOST_LINES, true);
                indent = null;
            }
        }
        checks.same("a method without an end", indent, null);
    }

    private static List<Class<?>> allClasses() {
        List<Class<?>> all = new ArrayList<>();
        all.add(BottleLoop.class);
        all.addAll(List.of(BottleLoop.class.getDeclaredClasses()));
        return all;
    }

    private static boolean isOfFace(String name) {
        for (Method method : BottleLoop.class.getMethods()) {
            if (method.getDeclaringClass() == BottleLoop.class && method.getName().equals(name)) {
                return true;
            }
        }
        return false;
    }

    private void classes() {
        checks.begin("rules 1, 5 and 11");
        checks.same("classes", allClasses().size() <= MOST_CLASSES, true);
        for (Class<?> type : allClasses()) {
            int fields = 0;
            for (Field field : type.getDeclaredFields()) {
                boolean isStatic = Modifier.isStatic(field.getModifiers());
                checks.same(field + " may be static", !isStatic || Modifier.isFinal(field.getModifiers()), true);
                fields += isStatic ? 0 : 1;
            }
            checks.same(type + " has at most " + MOST_FIELDS + " fields", fields <= MOST_FIELDS, true);
            for (Method method : type.getDeclaredMethods()) {
                boolean isPublic = Modifier.isPublic(method.getModifiers());
                checks.same(method + " has a name of its own", isPublic || !isOfFace(method.getName()), true);
                checks.same(method + " has few parameters", method.getParameterCount() <= MOST_PARAMETERS, true);
            }
        }
    }
}
