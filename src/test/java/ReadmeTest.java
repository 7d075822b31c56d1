import java.io.IOException;
import java.lang.reflect.InvocationTargetException;
import java.lang.reflect.Method;
import java.nio.file.Files;
import java.nio.file.Path;
import java.util.regex.Matcher;
import java.util.regex.Pattern;

/** The calls that README.md shows answer, or throw, what is written beside them. */
final class ReadmeTest {
    private static final Pattern NEW = Pattern.compile("LilyWheels pond = new LilyWheels\\(\\);");
    private static final Pattern CALL =
        Pattern.compile("pond\\.(\\w+)\\((.*)\\); *// (-?\\d+|throws (\\w+))(:.*)?");

    private static LilyWheels pond = new LilyWheels();

    public static void main(String[] args) throws IOException, ReflectiveOperationException {
        Checks checks = new Checks("ReadmeTest");
        boolean code = false;
        for (String line : Files.readAllLines(Path.of("README.md"))) {
            if (line.startsWith("```")) {
                code = line.equals("```java");
            } else if (code && NEW.matcher(line).matches()) {
                pond = new LilyWheels();
            } else if (code && !line.isEmpty() && !line.startsWith("//")) {
                Matcher call = CALL.matcher(line);
                checks.due("\"" + line + "\" is a call with what it answers", call.matches());
                String want = call.group(4) == null ? call.group(3) : call.group(4);
                String got = outcome(call.group(1), call.group(2).split(", *"));
                checks.due(line + " came out as " + got, got.equals(want));
            }
        }
        checks.end();
    }

    /** The answer, or the name of what the call throws. */
    private static String outcome(String name, String[] words) throws ReflectiveOperationException {
        for (Method m : LilyWheels.class.getMethods()) {
            if (m.getName().equals(name) && m.getDeclaringClass() == LilyWheels.class) {
                try {
                    return m.invoke(pond, numbers(m.getParameterTypes(), words)).toString();
                } catch (InvocationTargetException e) {
                    return e.getCause().getClass().getSimpleName();
                }
            }
        }
        return "no such method";
    }

    private static Object[] numbers(Class<?>[] types, String[] words) {
        Object[] numbers = new Object[types.length];
        for (int i = 0; i < types.length; i++) {
            if (words[i].startsWith("'")) {
                numbers[i] = (int) words[i].charAt(1);
            } else if (types[i] == long.class) {
                numbers[i] = Long.valueOf(words[i].replace("L", ""));
            } else {
                numbers[i] = Integer.valueOf(words[i]);
            }
        }
        return numbers;
    }
}
