import java.lang.reflect.Constructor;
import java.lang.reflect.Method;
import java.lang.reflect.Modifier;
import java.nio.file.Files;
import java.nio.file.Path;
import java.util.regex.Matcher;
import java.util.regex.Pattern;

/** That README.md says how to use the class as it is: its example's answers, and each call of the face. */
public final class ReadmeTest {
    private static final Pattern EXAMPLE = Pattern.compile("```java\n(.*?)```", Pattern.DOTALL);
    private static final Pattern MADE = Pattern.compile("new FrequencySketches\\(([^)]*)\\);");
    private static final Pattern CALL = Pattern.compile("x\\.(\\w+)\\(([^)]*)\\); *// (-?\\d+|true|false)\\b.*");

    private static int wrong = 0;
    private static int answers = 0;

    private static void fault(String what) {
        wrong++;
        System.out.println(what);
    }

    private static Object[] values(String list, Class<?>[] types) {
        String[] words = list.split(", ");
        Object[] values = new Object[words.length];
        for (int i = 0; i < words.length && i < types.length; i++) {
            if (types[i] == boolean.class) {
                values[i] = Boolean.valueOf(words[i]);
            } else {
                values[i] = Integer.valueOf(words[i]);
            }
        }
        return values;
    }

    private static void call(FrequencySketches x, String line) throws ReflectiveOperationException {
        Matcher told = CALL.matcher(line);
        if (!told.matches()) {
            fault("a line of the example is no call with its answer: " + line);
            return;
        }
        for (Method m : FrequencySketches.class.getMethods()) {
            if (m.getName().equals(told.group(1))) {
                Object got = m.invoke(x, values(told.group(2), m.getParameterTypes()));
                answers++;
                if (!got.toString().equals(told.group(3))) {
                    fault("the example's line answered " + got + ": " + line);
                }
                return;
            }
        }
        fault("there is no such call: " + line);
    }

    private static void example(String text) throws ReflectiveOperationException {
        Matcher found = EXAMPLE.matcher(text);
        if (!found.find()) {
            fault("there is no example");
            return;
        }
        FrequencySketches x = null;
        for (String line : found.group(1).split("\n")) {
            Matcher made = MADE.matcher(line);
            if (made.find()) {
                Constructor<?> maker = FrequencySketches.class.getConstructors()[0];
                x = (FrequencySketches) maker.newInstance(values(made.group(1), maker.getParameterTypes()));
            } else if (!line.startsWith("//")) {
                call(x, line);
            }
        }
    }

    private static void table(String text) {
        for (Method m : FrequencySketches.class.getDeclaredMethods()) {
            Matcher row = Pattern.compile("\\| `" + m.getName() + "\\((\\w[^)]*)\\)` \\|").matcher(text);
            if (Modifier.isPublic(m.getModifiers())
                && !(row.find() && row.group(1).split(", ").length == m.getParameterCount())) {
                fault("the table doesn't tell of " + m);
            }
        }
        if (!text.contains("`.ci/run`") && !text.contains("\n.ci/run\n")) {
            fault("it doesn't say how to run the tests");
        }
    }

    public static void main(String[] args) throws Exception {
        String text = Files.readString(Path.of("README.md"));
        example(text);
        table(text);
        System.out.println(answers + " answers of the example, " + wrong + " faults");
        if (wrong != 0 || answers == 0) {
            System.exit(1);
        }
    }
}
