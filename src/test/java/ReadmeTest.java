import java.io.IOException;
import java.lang.reflect.Method;
import java.nio.file.Files;
import java.nio.file.Path;
import java.util.regex.Matcher;
import java.util.regex.Pattern;

/** The lines of README.md's Java: each call on one object answers what is told behind it. */
public final class ReadmeTest {
    private static final Check CHECK = new Check("ReadmeTest");
    private static final String MADE = "ThumbOut x = new ThumbOut();";
    private static final Pattern CALL = Pattern.compile("x\\.(\\w+)\\(([-0-9, ]*)\\); +// (-?\\d+)(:.*)?");
    private static final Pattern TEXT = Pattern.compile("for \\(char c : \"([^\"]*)\"\\.toCharArray\\(\\)\\) x\\.feed\\(c\\);");

    public static void main(String[] args) throws IOException, ReflectiveOperationException {
        if (args.length < 1) {
            CHECK.due("the program's file is told as an argument", 0, 1);
            CHECK.end();
        }
        Path readme = Path.of(args[0]).toAbsolutePath().resolve("../../../../README.md").normalize();
        ThumbOut x = null;
        boolean inside = false;
        for (String line : Files.readAllLines(readme)) {
            if (line.startsWith("```")) {
                inside = line.equals("```java");
            } else if (inside && line.equals(MADE)) {
                CHECK.due("one object: " + line, x == null ? 1 : 0, 1);
                x = new ThumbOut();
            } else if (inside && !line.isEmpty()) {
                run(x, line);
            }
        }
        CHECK.due("README.md makes an object", x == null ? 0 : 1, 1);
        CHECK.end();
    }

    private static void run(ThumbOut x, String line) throws ReflectiveOperationException {
        Matcher text = TEXT.matcher(line);
        Matcher call = CALL.matcher(line);
        if (text.matches()) {
            Check.feed(x, text.group(1));
        } else if (call.matches()) {
            CHECK.due(line, answer(x, call.group(1), call.group(2)), Long.parseLong(call.group(3)));
        } else {
            CHECK.due("a line of another form: " + line, 1, 0);
        }
    }

    private static long answer(ThumbOut x, String name, String told) throws ReflectiveOperationException {
        String[] numbers = told.isEmpty() ? new String[0] : told.split(", ");
        for (Method m : ThumbOut.class.getMethods()) {
            if (m.getName().equals(name) && m.getParameterCount() == numbers.length) {
                Object[] values = new Object[numbers.length];
                for (int i = 0; i < numbers.length; i++) {
                    if (m.getParameterTypes()[i] == long.class) {
                        values[i] = Long.valueOf(numbers[i]);
                    } else {
                        values[i] = Integer.valueOf(numbers[i]);
                    }
                }
                return ((Number) m.invoke(x, values)).longValue();
            }
        }
        CHECK.due("a call of the face: " + name + "(" + told + ")", 0, 1);
        return 0;
    }
}
