import java.io.IOException;
import java.lang.reflect.Constructor;
import java.lang.reflect.Field;
import java.lang.reflect.Method;
import java.lang.reflect.Modifier;
import java.nio.charset.StandardCharsets;
import java.nio.file.Files;
import java.nio.file.Path;
import java.util.List;
import java.util.Set;
import java.util.TreeSet;
import java.util.regex.Matcher;
import java.util.regex.Pattern;

/**
 * The rules of ../shared/LANGUAGE.md that can be told from the text and from the compiled classes, and two
 * that are stricter: the class catches nothing, and of the library it uses Math.min and Math.max alone.
 */
public final class LanguageTest {
    private static final Path SOURCE = Path.of("src/main/java/PinnedPantry.java");
    private static final int MOST_CLASSES = 12;
    private static final int MOST_FIELDS = 20;
    private static final int MOST_PARAMETERS = 7;
    private static final int MOST_LINES = 60;

    private static final List<String> FORBIDDEN = List.of("\\bimport\\b", "\\bpackage\\b", "\\bprotected\\b",
        "\\bfinally\\b", "\\bsynchronized\\b", "\\bassert\\b", "\\bvolatile\\b", "\\bnative\\b", "\\bcatch\\b",
        "->", "::", "\\bstatic\\s*\\{", "\\w+Exact\\b", "\\b(equals|hashCode|toString|getMessage)\\b", "\\bjava\\.");
    private static final Set<String> EXCEPTIONS = Set.of("IllegalStateException", "IllegalArgumentException",
        "IndexOutOfBoundsException");
    private static final Set<String> CONSTANTS = Set.of("int", "long", "boolean", "char", "java.lang.String");

    public static void main(String[] args) throws IOException {
        String text = Files.readString(SOURCE, StandardCharsets.UTF_8);
        Checks.due("signs beyond 127", text.chars().filter(c -> c > 127).count(), 0);
        String code = text.replaceAll("(?s)/\\*.*?\\*/", "").replaceAll("//[^\n]*", "")
            .replaceAll("\"[^\"\n]*\"", "\"\"");
        for (String pattern : FORBIDDEN) {
            Checks.due("how often " + pattern + " is found", found(pattern, code).size(), 0);
        }
        checkThrows(code);
        checkLibrary(code);
        checkLengths(text);
        checkClasses();
        Checks.end();
    }

    private static TreeSet<String> found(String pattern, String code) {
        TreeSet<String> found = new TreeSet<>();
        Matcher matcher = Pattern.compile(pattern).matcher(code);
        while (matcher.find()) {
            found.add(matcher.group());
        }
        return found;
    }

    /** Rule 6: each throw makes one of the document's exceptions, with a written text or none. */
    private static void checkThrows(String code) {
        for (String statement : found("\\bthrow\\b[^;]*;", code)) {
            Matcher form = Pattern.compile("throw new (\\w+)\\((\"\")?\\);").matcher(statement);
            if (!form.matches() || !EXCEPTIONS.contains(form.group(1))) {
                Checks.fail("not a throw of rule 6: " + statement);
            }
        }
    }

    /** Rule 4: no name of a class but the own ones, the exceptions, and two functions of Math. */
    private static void checkLibrary(String code) {
        Set<String> own = new TreeSet<>(EXCEPTIONS);
        own.add("Math");
        own.add(PinnedPantry.class.getSimpleName());
        for (Class<?> inside : PinnedPantry.class.getDeclaredClasses()) {
            own.add(inside.getSimpleName());
        }
        for (String name : found("\\b[A-Z]\\w*[a-z]\\w*\\b", code)) {
            Checks.due(name + " may be used", own.contains(name) ? 1 : 0, 1);
        }
        for (String call : found("\\bMath\\.\\w+", code)) {
            Checks.due(call + " may be used", call.equals("Math.min") || call.equals("Math.max") ? 1 : 0, 1);
        }
    }

    /** Rule 11: methods stay short. A method ends with the brace that stands where its head does. */
    private static void checkLengths(String text) {
        Matcher method = Pattern.compile("(?m)^( +)[^\\s/*][^\n=]*\\([^=]*?\\{\n(?s:.*?)\n\\1\\}$").matcher(text);
        int methods = 0;
        while (method.find()) {
            methods++;
            long lines = method.group().lines().count();
            Checks.due("too long: " + method.group().lines().findFirst().get(), lines > MOST_LINES ? lines : 0, 0);
        }
        Checks.due("methods were found", methods > 17 ? 1 : 0, 1);
    }

    private static void checkClasses() {
        Class<?>[] inside = PinnedPantry.class.getDeclaredClasses();
        Checks.due("too many classes", inside.length + 1 > MOST_CLASSES ? inside.length + 1 : 0, 0);
        checkClass(PinnedPantry.class);
        for (Class<?> one : inside) {
            Checks.due(one.getName() + " is static", Modifier.isStatic(one.getModifiers()) ? 1 : 0, 1);
            Checks.due(one.getName() + " is public or protected",
                one.getModifiers() & (Modifier.PUBLIC | Modifier.PROTECTED), 0);
            checkClass(one);
        }
    }

    private static void checkClass(Class<?> one) {
        int fields = 0;
        for (Field field : one.getDeclaredFields()) {
            if (Modifier.isStatic(field.getModifiers())) {
                Checks.due(field + " is final", Modifier.isFinal(field.getModifiers()) ? 1 : 0, 1);
                Checks.due(field + " is a constant", CONSTANTS.contains(field.getType().getName()) ? 1 : 0, 1);
            } else {
                fields++;
            }
        }
        Checks.due("too many fields in " + one.getName(), fields > MOST_FIELDS ? fields : 0, 0);
        for (Method method : one.getDeclaredMethods()) {
            int parameters = method.getParameterCount();
            Checks.due("too many parameters of " + method, parameters > MOST_PARAMETERS ? parameters : 0, 0);
        }
        for (Constructor<?> constructor : one.getDeclaredConstructors()) {
            int parameters = constructor.getParameterCount();
            Checks.due("too many parameters of " + constructor, parameters > MOST_PARAMETERS ? parameters : 0, 0);
        }
    }
}
