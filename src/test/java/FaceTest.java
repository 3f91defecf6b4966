import java.lang.reflect.Constructor;
import java.lang.reflect.Field;
import java.lang.reflect.Method;
import java.lang.reflect.Modifier;
import java.util.ArrayList;
import java.util.Arrays;
import java.util.List;
import java.util.TreeSet;

/** The public face: what the document names, and nothing else that can be seen from outside. */
public final class FaceTest {
    private static final String INDEX = "IndexOutOfBoundsException";
    private static final String ARGUMENT = "IllegalArgumentException";
    private static final String STATE = "IllegalStateException";

    public static void main(String[] args) {
        TreeSet<String> due = new TreeSet<>(Arrays.asList(
                "int fetch(int) " + INDEX + " " + STATE,
                "int fetchAll(int,int,int) " + INDEX + " " + ARGUMENT,
                "int pin(int) " + INDEX + " " + STATE,
                "int unpin(int) " + INDEX + " " + STATE,
                "int eat(int) " + INDEX + " " + STATE,
                "int setPlaces(int) " + ARGUMENT + " " + STATE,
                "int setGoal(int) " + ARGUMENT,
                "int jar(int,int) " + INDEX,
                "int shelf(int,int) " + INDEX,
                "int ghost(int,int) " + INDEX,
                "int count(int) " + INDEX,
                "int next()",
                "int would(int) " + INDEX,
                "int trial(int,int,int) " + INDEX + " " + ARGUMENT,
                "int advise(int,int,int) " + INDEX + " " + ARGUMENT,
                "double mean()",
                "long digest()"));
        TreeSet<String> got = new TreeSet<>();
        List<String> privateNames = new ArrayList<>();
        List<String> publicNames = new ArrayList<>();
        for (Method method : PinnedPantry.class.getDeclaredMethods()) {
            if (Modifier.isPrivate(method.getModifiers())) {
                privateNames.add(method.getName());
            } else {
                publicNames.add(method.getName());
                got.add(described(method));
                checkModifiers(method.getName(), method.getModifiers(), Modifier.PUBLIC);
            }
        }
        if (!got.equals(due)) {
            Checks.fail("the methods are " + got + ", due are " + due);
        }
        for (String name : privateNames) {
            if (publicNames.contains(name)) {
                Checks.fail("a private method bears the public name " + name);
            }
        }
        checkModifiers("the class", PinnedPantry.class.getModifiers(), Modifier.PUBLIC | Modifier.FINAL);
        checkConstructors();
        for (Field field : PinnedPantry.class.getDeclaredFields()) {
            Checks.due(field.getName() + " is private", Modifier.isPrivate(field.getModifiers()) ? 1 : 0, 1);
        }
        Checks.end();
    }

    private static String described(Method method) {
        StringBuilder text = new StringBuilder();
        text.append(method.getReturnType().getName()).append(' ').append(method.getName()).append('(');
        String comma = "";
        for (Class<?> type : method.getParameterTypes()) {
            text.append(comma).append(type.getName());
            comma = ",";
        }
        text.append(')');
        for (Class<?> type : method.getExceptionTypes()) {
            text.append(' ').append(type.getSimpleName());
        }
        return text.toString();
    }

    private static void checkConstructors() {
        Constructor<?>[] constructors = PinnedPantry.class.getDeclaredConstructors();
        Checks.due("how many constructors", constructors.length, 1);
        Checks.due("parameters of the constructor", constructors[0].getParameterCount(), 0);
        checkModifiers("the constructor", constructors[0].getModifiers(), Modifier.PUBLIC);
    }

    private static void checkModifiers(String name, int got, int want) {
        Checks.due("modifiers of " + name, got, want);
    }
}
