import java.io.IOException;
import java.lang.reflect.InvocationTargetException;
import java.lang.reflect.Method;
import java.nio.file.Files;
import java.nio.file.Path;
import java.util.Arrays;
import java.util.regex.Matcher;
import java.util.regex.Pattern;

/** The calls that README.md shows answer what stands behind them. */
public final class ReadmeTest {
    private static final Pattern CALL = Pattern.compile("^x\\.(\\w+)\\(([^)]*)\\); +// (-?\\d+|true|false)\\b");

    public static void main(String[] args) throws IOException, ReflectiveOperationException {
        Check check = new Check();
        check.says("README.md says how to use the class");
        StruckColours x = null;
        boolean code = false;
        int calls = 0;
        for (String line : Files.readAllLines(Path.of(System.getProperty("root", "."), "README.md"))) {
            code = line.equals("```java") || code && !line.equals("```");
            if (!code) {
                continue;
            }
            if (line.startsWith("StruckColours x = new")) {
                x = new StruckColours();
            }
            Matcher call = CALL.matcher(line);
            boolean is = call.find();
            check.due(line + " is a call with its answer", is || !line.startsWith("x."), true);
            if (is) {
                check.due(line, String.valueOf(answer(x, call.group(1), call.group(2))).equals(call.group(3)), true);
                calls++;
            }
        }
        check.due("calls shown: " + calls, calls > 10, true);
        check.ends();
    }

    private static Object answer(StruckColours x, String name, String given)
            throws IllegalAccessException, InvocationTargetException, NoSuchMethodException {
        Object[] values = given.isEmpty() ? new Object[0]
            : Arrays.stream(given.split(", *")).map(v -> (Object) Integer.decode(v)).toArray();
        Class<?>[] types = new Class<?>[values.length];
        Arrays.fill(types, int.class);
        Method method = StruckColours.class.getMethod(name, types);
        return method.invoke(x, values);
    }
}
