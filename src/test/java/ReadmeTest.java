import java.io.IOException;
import java.lang.reflect.InvocationTargetException;
import java.lang.reflect.Method;
import java.nio.file.Files;
import java.nio.file.Path;
import java.util.List;
import java.util.regex.Matcher;
import java.util.regex.Pattern;

/** The example of README.md: each of its calls answers what its comment says ahead of the colon. */
public final class ReadmeTest {
    private static final String BEGIN = "MotionPost post = new MotionPost();";
    private static final Pattern CALL =
            Pattern.compile("(?:int \\w+ = )?post\\.(\\w+)\\((.*)\\); +// (-?\\d+|true|false|throws \\w+): .*");

    public static void main(String[] args) throws IOException {
        List<String> lines = Files.readAllLines(Path.of("README.md"));
        int begin = lines.indexOf(BEGIN);
        Check.due("README.md begins its example", begin > 0 && lines.get(begin - 1).equals("```java"), true);
        MotionPost post = new MotionPost();
        int calls = 0;
        for (int i = begin + 1; i < lines.size() && !lines.get(i).equals("```"); i++) {
            Matcher call = CALL.matcher(lines.get(i));
            Check.due("README.md has a call and its answer: " + lines.get(i), call.matches(), true);
            if (call.matches()) {
                Check.due("README.md: " + lines.get(i), answer(post, call.group(1), call.group(2)), call.group(3));
                calls++;
            }
        }
        Check.due("README.md has calls", calls > 0, true);
        Check.end("ReadmeTest");
    }

    private static String answer(MotionPost post, String name, String written) {
        String[] values = written.isEmpty() ? new String[0] : written.split(", ");
        for (Method method : MotionPost.class.getMethods()) {
            if (method.getDeclaringClass() == MotionPost.class && method.getName().equals(name)
                    && method.getParameterCount() == values.length) {
                return answer(post, method, values);
            }
        }
        return "no such call";
    }

    private static String answer(MotionPost post, Method method, String[] written) {
        Object[] values = new Object[written.length];
        for (int i = 0; i < written.length; i++) {
            values[i] = value(method.getParameterTypes()[i], written[i]);
        }
        try {
            return String.valueOf(method.invoke(post, values));
        } catch (InvocationTargetException e) {
            return "throws " + e.getCause().getClass().getSimpleName();
        } catch (IllegalAccessException e) {
            return "is no public call";
        }
    }

    private static Object value(Class<?> type, String written) {
        if (type == boolean.class) {
            return Boolean.valueOf(written);
        }
        return type == long.class ? (Object) Long.decode(written) : (Object) Integer.decode(written);
    }
}
