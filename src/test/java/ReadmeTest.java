import java.io.IOException;
import java.lang.reflect.Method;
import java.nio.file.Files;
import java.nio.file.Path;
import java.util.regex.Matcher;
import java.util.regex.Pattern;

/** The examples in README.md: every call there answers what stands behind it. */
public final class ReadmeTest {
    private static final Pattern NEW_OBJECT = Pattern.compile("FastBallots x = new FastBallots\\((.*?)\\);.*");
    private static final Pattern CALL = Pattern.compile("x\\.(\\w+)\\((.*?)\\);\\s*// (-?\\d+|true|false)(:.*)?");
    private static final String DELIVER_ALL = "while (x.waiting() > 0) x.deliver(0);";

    private static final Due DUE = new Due();

    private Used x;

    public static void main(String[] args) throws IOException, ReflectiveOperationException {
        DUE.at("README.md");
        ReadmeTest test = new ReadmeTest();
        boolean inExample = false;
        for (String line : Files.readAllLines(Path.of("README.md"))) {
            if (line.startsWith("```")) {
                inExample = line.equals("```java");
            } else if (inExample && !line.isBlank()) {
                test.follow(line);
            }
        }
        DUE.end();
    }

    // A line that is not understood is a fault: else an example could go unread.
    private void follow(String line) throws ReflectiveOperationException {
        Matcher made = NEW_OBJECT.matcher(line);
        Matcher call = CALL.matcher(line);
        if (made.matches()) {
            String[] sizes = made.group(1).split(", ");
            x = new Used(Integer.parseInt(sizes[0]), Integer.parseInt(sizes[1]), Integer.parseInt(sizes[2]));
        } else if (line.equals(DELIVER_ALL)) {
            while (x.waiting() > 0) {
                x.deliver(0);
            }
        } else if (call.matches()) {
            DUE.is(line, String.valueOf(answer(call.group(1), call.group(2))), call.group(3));
        } else {
            DUE.tell("not understood: " + line);
        }
    }

    private Object answer(String name, String written) throws ReflectiveOperationException {
        for (Method method : Face.class.getMethods()) {
            if (method.getName().equals(name)) {
                return method.invoke(x, arguments(method.getParameterTypes(), written));
            }
        }
        throw new NoSuchMethodException(name);
    }

    private static Object[] arguments(Class<?>[] types, String written) {
        String[] parts = written.split(", ");
        Object[] arguments = new Object[types.length];
        for (int k = 0; k < types.length; k++) {
            arguments[k] = types[k] == int.class ? (Object) Integer.valueOf(parts[k]) : Boolean.valueOf(parts[k]);
        }
        return arguments;
    }
}
