import java.lang.reflect.InvocationTargetException;
import java.lang.reflect.Method;
import java.nio.file.Files;
import java.nio.file.Path;
import java.util.regex.Matcher;
import java.util.regex.Pattern;

/** README.md tells by examples how the class is used: each call answers what stands behind it. */
public final class ReadmeTest {
    private static final Path README = Path.of("README.md");
    private static final String NEW = "Poolward house = new Poolward();";
    private static final Pattern CALL = Pattern.compile("house\\.(\\w+)\\((.*)\\);\\s+// (.+)");

    private static final Check check = new Check();

    private ReadmeTest() {
    }

    public static void main(String[] args) throws Exception {
        boolean isExample = false;
        Poolward house = null;
        for (String line : Files.readAllLines(README)) {
            if (line.startsWith("```")) {
                isExample = line.equals("```java");
            } else if (isExample && line.equals(NEW)) {
                house = new Poolward();
            } else if (isExample && !line.isEmpty() && !line.startsWith("//")) {
                check.part(line);
                Matcher call = CALL.matcher(line);
                check.due(true, call.matches());
                if (call.matches()) {
                    check.due(call.group(3), answerOf(house, call.group(1), call.group(2)));
                }
            }
        }
        check.part("examples");
        check.due(true, check.asked() >= 100);
        check.finish();
    }

    private static String answerOf(Poolward house, String name, String arguments)
            throws IllegalAccessException {
        String[] words = arguments.isEmpty() ? new String[0] : arguments.split(", ");
        Method method = methodOf(name);
        Object[] numbers = new Object[words.length];
        for (int i = 0; i < words.length; i++) {
            numbers[i] = method.getParameterTypes()[i] == boolean.class
                    ? (Object) Boolean.valueOf(words[i]) : Integer.valueOf(words[i]);
        }
        try {
            Object answer = method.invoke(house, numbers);
            return answer instanceof String ? "\"" + answer + "\"" : answer.toString();
        } catch (InvocationTargetException e) {
            return "throws " + e.getCause().getClass().getSimpleName();
        }
    }

    private static Method methodOf(String name) {
        for (Method method : Poolward.class.getMethods()) {
            if (method.getName().equals(name)) {
                return method;
            }
        }
        throw new IllegalArgumentException("no such call: " + name);
    }
}
