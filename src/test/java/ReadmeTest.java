import java.io.IOException;
import java.lang.reflect.InvocationTargetException;
import java.lang.reflect.Method;
import java.nio.file.Files;
import java.nio.file.Path;
import java.util.regex.Matcher;
import java.util.regex.Pattern;

/** Makes the calls that README.md shows, on one object, and compares with the answers that it tells. */
public final class ReadmeTest {
    private static final Pattern CALL =
            Pattern.compile("x\\.(\\w+)\\(([^)]*)\\); *// (?:throws )?(\\w+|-\\d+): .*");

    public static void main(String[] args) throws IOException {
        FaultBench x = new FaultBench();
        int calls = 0;
        for (String line : Files.readAllLines(Path.of("README.md"))) {
            if (line.startsWith("x.")) {
                Matcher call = CALL.matcher(line);
                Check.due("the form of " + line, call::matches, true);
                if (call.matches()) {
                    Check.due(line, () -> answer(x, call.group(1), call.group(2)), call.group(3));
                    calls++;
                }
            }
        }
        int made = calls;
        Check.due("calls that README.md shows: " + made, () -> made > 10, true);
        Check.finish("ReadmeTest");
    }

    private static Object answer(FaultBench x, String name, String given) {
        String[] texts = given.isEmpty() ? new String[0] : given.split(", ");
        Object[] values = new Object[texts.length];
        Class<?>[] types = new Class<?>[texts.length];
        for (int k = 0; k < texts.length; k++) {
            values[k] = Integer.decode(texts[k]);
            types[k] = int.class;
        }
        try {
            Method method = FaultBench.class.getMethod(name, types);
            return String.valueOf(method.invoke(x, values));
        } catch (InvocationTargetException e) {
            return e.getCause().getClass().getSimpleName();
        } catch (ReflectiveOperationException e) {
            return "no such call";
        }
    }
}
