import java.lang.reflect.Constructor;
import java.lang.reflect.Executable;
import java.lang.reflect.Field;
import java.lang.reflect.Method;
import java.lang.reflect.Modifier;
import java.util.Arrays;
import java.util.Set;
import java.util.TreeSet;

/** The class has the document's face and nothing else that can be seen from outside. */
public final class FaceTest {
    private static final String INDEX = "IndexOutOfBoundsException";
    private static final String ARGUMENT = "IllegalArgumentException";
    private static final String STATE = "IllegalStateException";
    private static final String[] FACE = {
        "int addBrand(int,int) " + ARGUMENT + " " + STATE,
        "int addShop(int) " + ARGUMENT + " " + STATE,
        "int buyCrates(int) " + ARGUMENT + " " + STATE,
        "int set(int,int) " + INDEX + " " + ARGUMENT + " " + STATE,
        "int fill(int,int) " + INDEX + " " + ARGUMENT + " " + STATE,
        "int deliver(int,int,int) " + INDEX + " " + ARGUMENT + " " + STATE,
        "int sell(int,int,int) " + INDEX + " " + ARGUMENT + " " + STATE,
        "int takeBack(int,int,int) " + INDEX + " " + ARGUMENT + " " + STATE,
        "int breaks(int,int,int) " + INDEX + " " + ARGUMENT + " " + STATE,
        "int lose(int,int) " + INDEX + " " + ARGUMENT + " " + STATE,
        "int collect(int,int,int) " + INDEX + " " + ARGUMENT + " " + STATE,
        "int sort(int,int) " + ARGUMENT + " " + STATE,
        "int swap(int,int,int) " + INDEX + " " + ARGUMENT + " " + STATE,
        "int append(int) " + ARGUMENT + " " + STATE,
        "int clearBuffer()",
        "int firstError()",
        "int run() " + ARGUMENT,
        "int undo() " + STATE,
        "int brand(int,int) " + INDEX + " " + ARGUMENT,
        "int shop(int,int) " + INDEX + " " + ARGUMENT,
        "int count(int) " + ARGUMENT,
        "int setting(int) " + INDEX,
        "int whyNotDeliver(int,int,int) " + INDEX + " " + ARGUMENT,
        "int whyNotCollect(int,int,int) " + INDEX + " " + ARGUMENT,
        "int mostCrates(int,int) " + INDEX,
        "int collected(int,int,int) " + INDEX + " " + ARGUMENT,
        "int filled(int,int) " + INDEX + " " + ARGUMENT,
        "int bestShop(int) " + ARGUMENT,
        "double goneShare()",
        "long digest()"};

    private final Checks checks = new Checks();

    private FaceTest() {
    }

    public static void main(String[] args) {
        FaceTest test = new FaceTest();
        test.face();
        test.constants();
        test.inside();
        test.checks.end();
    }

    private void face() {
        checks.begin("face");
        Set<String> there = new TreeSet<>();
        Set<String> privateNames = new TreeSet<>();
        Set<String> publicNames = new TreeSet<>();
        for (Method method : BottleLoop.class.getDeclaredMethods()) {
            if (Modifier.isPrivate(method.getModifiers()) || method.isSynthetic()) {
                privateNames.add(method.getName());
            } else {
                there.add(textOf(method));
                publicNames.add(method.getName());
                checks.same(method + " is static", Modifier.isStatic(method.getModifiers()), false);
                checks.same(method + " is public", Modifier.isPublic(method.getModifiers()), true);
            }
        }
        checks.same("methods", there, new TreeSet<>(Arrays.asList(FACE)));
        privateNames.retainAll(publicNames);
        checks.same("names that are both private and public", privateNames, new TreeSet<String>());
        Constructor<?>[] constructors = BottleLoop.class.getDeclaredConstructors();
        checks.same("constructors", constructors.length, 1);
        checks.same("constructor", constructors[0].toString(), "public BottleLoop()");
        checks.same("class", Modifier.toString(BottleLoop.class.getModifiers()), "public final");
    }

    private static String textOf(Method method) {
        StringBuilder text = new StringBuilder();
        text.append(method.getReturnType()).append(' ').append(method.getName()).append('(');
        for (int i = 0; i < method.getParameterCount(); i++) {
            text.append(i == 0 ? "" : ",").append(method.getParameterTypes()[i]);
        }
        return text.append(')').append(exceptionsOf(method)).toString();
    }

    private static String exceptionsOf(Executable method) {
        StringBuilder text = new StringBuilder();
        for (Class<?> type : method.getExceptionTypes()) {
            text.append(' ').append(type.getSimpleName());
        }
        return text.toString();
    }

    private void constants() {
        checks.begin("constants");
        checks.same("NONE", BottleLoop.NONE, -1);
        for (Field field : BottleLoop.class.getDeclaredFields()) {
            boolean isNone = field.getName().equals("NONE");
            checks.same(field + " is private", Modifier.isPrivate(field.getModifiers()), !isNone);
            checks.same(field + " is final", Modifier.isFinal(field.getModifiers()), true);
        }
    }

    private void inside() {
        checks.begin("classes inside");
        for (Class<?> inner : BottleLoop.class.getDeclaredClasses()) {
            int modifiers = inner.getModifiers();
            checks.same(inner + " is static", Modifier.isStatic(modifiers), true);
            checks.same(inner + " is hidden", Modifier.isPublic(modifiers) || Modifier.isProtected(modifiers), false);
        }
    }
}
