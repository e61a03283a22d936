import java.lang.reflect.Method;
import java.nio.file.Files;
import java.nio.file.Path;
import java.util.regex.Matcher;
import java.util.regex.Pattern;

/** The example of README.md answers what it says; runs in the project's root. */
public final class ReadmeTest {
    private static final Pattern TEXT = Pattern.compile("String text = \"(.*)\";");
    private static final Pattern CALL = Pattern.compile("x\\.(\\w+)\\(([^()]*)\\);\\s*// (true|false|-?\\d+).*");

    public static void main(String[] args) throws Exception {
        String readme = Files.readString(Path.of("README.md"));
        int start = readme.indexOf("```java") + "```java".length();
        String example = readme.substring(start, readme.indexOf("```", start));
        DutyRules x = new DutyRules();
        int calls = 0;
        for (String line : example.split("\n")) {
            Matcher text = TEXT.matcher(line);
            Matcher call = CALL.matcher(line);
            if (text.matches()) {
                Checks.tell(x, text.group(1));
            } else if (call.matches()) {
                Checks.due(line, answer(x, call.group(1), call.group(2)), call.group(3));
                calls++;
            } else if (line.startsWith("x.")) {
                Checks.due("no answer is told: " + line, false, true);
            }
        }
        Checks.due("no calls in the example", calls < 1, false);
        Checks.end();
    }

    private static String answer(DutyRules x, String name, String arguments) throws Exception {
        for (Method method : DutyRules.class.getMethods()) {
            if (method.getName().equals(name)) {
                return String.valueOf(method.invoke(x, asTyped(method.getParameterTypes(), arguments)));
            }
        }
        return "no such method";
    }

    private static Object[] asTyped(Class<?>[] types, String arguments) {
        String[] numbers = arguments.isEmpty() ? new String[0] : arguments.split(", ");
        Object[] typed = new Object[numbers.length];
        for (int i = 0; i < numbers.length; i++) {
            typed[i] = types[i] == long.class ? (Object) Long.valueOf(numbers[i]) : (Object) Integer.valueOf(numbers[i]);
        }
        return typed;
    }
}
