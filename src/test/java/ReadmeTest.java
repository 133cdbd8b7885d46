import java.io.IOException;
import java.lang.reflect.Method;
import java.lang.reflect.Modifier;
import java.nio.file.Files;
import java.nio.file.Path;
import java.util.regex.Matcher;
import java.util.regex.Pattern;

/** What README.md says of the calls: its example answers as it says there, and each call of the face is named. */
public final class ReadmeTest {
    private static final Due DUE = new Due();
    private static final Pattern EXAMPLE = Pattern.compile("(?m)^x\\.(\\w+)\\((.*?)\\); +// (-?\\d+|NONE|FULL):");

    public static void main(String[] args) throws IOException, ReflectiveOperationException {
        String readme = Files.readString(Path.of("README.md"));
        example(readme);
        for (Method method : SequenceFrames.class.getDeclaredMethods()) {
            if (Modifier.isPublic(method.getModifiers())) {
                DUE.holds(method.getName() + "() is told", readme.contains("`" + method.getName() + "("));
            }
        }
        DUE.end();
    }

    private static void example(String readme) throws ReflectiveOperationException {
        SequenceFrames x = new SequenceFrames();
        Matcher line = EXAMPLE.matcher(readme);
        int lines = 0;
        while (line.find()) {
            String call = "README.md's x." + line.group(1) + "(" + line.group(2) + ")";
            DUE.is(call, answer(x, line.group(1), line.group(2)), number(line.group(3)));
            lines++;
        }
        DUE.is("lines of the example", lines, 12);
    }

    private static long answer(SequenceFrames x, String name, String arguments) throws ReflectiveOperationException {
        Method method = methodOf(name);
        String[] texts = arguments.isEmpty() ? new String[0] : arguments.split(", *");
        Class<?>[] types = method.getParameterTypes();
        Object[] values = new Object[types.length];
        for (int i = 0; i < types.length; i++) {
            long v = number(texts[i]);
            values[i] = types[i] == int.class ? (Object) (int) v : (Object) v;
        }
        return ((Number) method.invoke(x, values)).longValue();
    }

    private static Method methodOf(String name) throws NoSuchMethodException {
        for (Method method : SequenceFrames.class.getMethods()) {
            if (method.getName().equals(name)) {
                return method;
            }
        }
        throw new NoSuchMethodException(name);
    }

    private static long number(String text) {
        return switch (text) {
            case "NONE" -> SequenceFrames.NONE;
            case "FULL" -> SequenceFrames.FULL;
            default -> Long.decode(text.replace("L", ""));
        };
    }
}
