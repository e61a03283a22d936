import java.io.IOException;
import java.lang.reflect.Constructor;
import java.lang.reflect.Field;
import java.lang.reflect.Method;
import java.lang.reflect.Modifier;
import java.nio.file.Files;
import java.nio.file.Path;
import java.util.HashSet;
import java.util.Set;

/** What can be seen of the rules of LANGUAGE.md from outside; runs in the project's root. */
public final class LanguageTest {
    private static final String[] WORDS = {"throw", "throws", "try", "catch", "finally", "synchronized", "assert",
        "import", "package", "protected", "native", "volatile", "Object", "System", "Thread", "Exception", "yield"};

    public static void main(String[] args) throws IOException {
        source();
        members();
        Checks.end();
    }

    private static void source() throws IOException {
        String code = Files.readString(Path.of("src/main/java/DutyRules.java"))
                .replaceAll("(?s)/\\*.*?\\*/", " ").replaceAll("//[^\n]*", " ").replaceAll("\"[^\"\n]*\"", " ");
        for (String word : WORDS) {
            Checks.due("the word " + word, code.matches("(?s).*\\b" + word + "\\b.*"), false);
        }
        Checks.due("lambdas", code.contains("->"), false);
        Checks.due("method references", code.contains("::"), false);
        Checks.due("functions that throw", code.contains("Exact("), false);
    }

    private static void members() {
        Set<String> face = new HashSet<>();
        for (Method method : DutyRules.class.getDeclaredMethods()) {
            if (Modifier.isPublic(method.getModifiers())) {
                face.add(method.getName());
            }
        }
        for (Field field : DutyRules.class.getDeclaredFields()) {
            String name = field.getName();
            boolean ofTheFace = name.equals("NONE") || name.equals("FULL");
            Checks.due("private field " + name, Modifier.isPrivate(field.getModifiers()), !ofTheFace);
            Checks.due("state in " + name, Modifier.isStatic(field.getModifiers())
                    && !Modifier.isFinal(field.getModifiers()), false);
        }
        for (Method method : DutyRules.class.getDeclaredMethods()) {
            boolean hidden = Modifier.isPrivate(method.getModifiers());
            Checks.due("private " + method.getName(), hidden && face.contains(method.getName()), false);
            Checks.due("parameters of " + method.getName(), method.getParameterCount() > 7, false);
        }
        Constructor<?>[] constructors = DutyRules.class.getDeclaredConstructors();
        Checks.due("constructors", constructors.length, 1);
        Class<?>[] inside = DutyRules.class.getDeclaredClasses();
        Checks.due("too many classes inside", inside.length > 11, false);
        for (Class<?> nested : inside) {
            Checks.due("static " + nested.getName(), Modifier.isStatic(nested.getModifiers()), true);
            Checks.due("public " + nested.getName(), Modifier.isPublic(nested.getModifiers()), false);
            Checks.due("fields of " + nested.getName(), nested.getDeclaredFields().length > 20, false);
            for (Method method : nested.getDeclaredMethods()) {
                Checks.due("name of the face: " + method.getName(), face.contains(method.getName()), false);
            }
        }
    }
}
