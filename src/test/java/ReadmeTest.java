import java.io.IOException;
import java.lang.reflect.Method;
import java.nio.file.Files;
import java.nio.file.Path;
import java.util.regex.Matcher;
import java.util.regex.Pattern;

/** The example of README.md: each call answers what the comment behind it begins with. */
public final class ReadmeTest {
    private static final Pattern EXAMPLE = Pattern.compile("```java\n(.*?)```", Pattern.DOTALL);
    private static final Pattern TEXT = Pattern.compile("for \\(char sign : \"(.*)\"\\.toCharArray\\(\\)\\) bills\\.sign\\(sign\\);");
    private static final Pattern CALL = Pattern.compile("bills\\.(\\w+)\\((.*?)\\);\\s*// (-?\\d+|true|false):.*");

    private final Checks checks = new Checks("ReadmeTest");
    private final PortBills bills = new PortBills();

    public static void main(String[] args) throws IOException, ReflectiveOperationException {
        ReadmeTest test = new ReadmeTest();
        Matcher example = EXAMPLE.matcher(Files.readString(Path.of("README.md")));
        test.checks.due("an example is there", example.find(), true);
        for (String row : example.group(1).split("\n")) {
            if (row.contains("bills.")) {
                test.call(row);
            }
        }
        test.checks.end();
    }

    private void call(String row) throws ReflectiveOperationException {
        Matcher text = TEXT.matcher(row);
        if (text.matches()) {
            Checks.giveText(bills, text.group(1));
            return;
        }
        Matcher call = CALL.matcher(row);
        checks.due("'" + row + "' tells an answer", call.matches(), true);
        if (call.matches()) {
            checks.dueText(row, answer(call.group(1), call.group(2)), call.group(3));
        }
    }

    private String answer(String name, String written) throws ReflectiveOperationException {
        String[] words = written.isEmpty() ? new String[0] : written.split(", ");
        for (Method method : PortBills.class.getMethods()) {
            Class<?>[] types = method.getParameterTypes();
            if (method.getName().equals(name) && types.length == words.length) {
                Object[] given = new Object[words.length];
                for (int i = 0; i < words.length; i++) {
                    given[i] = argument(types[i], words[i]);
                }
                return method.invoke(bills, given).toString();
            }
        }
        return "no such method";
    }

    private static Object argument(Class<?> type, String word) {
        if (type == boolean.class) {
            return Boolean.valueOf(word);
        }
        return type == long.class ? (Object) Long.valueOf(word) : (Object) Integer.valueOf(word);
    }
}
