import java.io.IOException;
import java.lang.reflect.Method;
import java.nio.charset.StandardCharsets;
import java.nio.file.Files;
import java.nio.file.Path;
import java.util.regex.Matcher;
import java.util.regex.Pattern;

/** The example of README.md answers as README.md says, and README.md names every call. */
public final class ReadmeTests {
    private static final Pattern TEXT = Pattern.compile("String text = \"(.*)\";");
    private static final Pattern CALL = Pattern.compile("cars\\.(\\w+)\\((.*)\\); +// (-?\\d+)\\b.*");

    private static final Checks checks = new Checks("ReadmeTests");

    private ReadmeTests() {
    }

    public static void main(String[] args) throws IOException, ReflectiveOperationException {
        String readme = Files.readString(Path.of("README.md"), StandardCharsets.US_ASCII);
        SnoreCars cars = new SnoreCars();
        int calls = 0;
        for (String line : readme.split("\n")) {
            Matcher text = TEXT.matcher(line);
            Matcher call = CALL.matcher(line);
            if (text.matches()) {
                Trains.feed(cars, text.group(1));
            } else if (call.matches()) {
                calls++;
                checks.same(line, answer(cars, call.group(1), call.group(2)), Integer.parseInt(call.group(3)));
            }
        }
        checks.holds("no example of many calls was found", calls > 10);
        for (Method m : SnoreCars.class.getDeclaredMethods()) {
            if (m.toString().startsWith("public ")) {
                checks.holds(m.getName() + " is not named", readme.contains("`" + m.getName() + "`"));
            }
        }
        checks.end();
    }

    private static int answer(SnoreCars cars, String name, String told) throws ReflectiveOperationException {
        String[] numbers = told.isEmpty() ? new String[0] : told.split(", ");
        Class<?>[] kinds = new Class<?>[numbers.length];
        Object[] arguments = new Object[numbers.length];
        for (int i = 0; i < numbers.length; i++) {
            kinds[i] = int.class;
            arguments[i] = numbers[i].equals("SnoreCars.NONE") ? SnoreCars.NONE : Integer.parseInt(numbers[i]);
        }
        return (Integer) SnoreCars.class.getMethod(name, kinds).invoke(cars, arguments);
    }
}
