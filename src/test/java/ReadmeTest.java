import java.io.IOException;
import java.lang.reflect.Method;
import java.nio.file.Files;
import java.nio.file.Path;
import java.util.regex.Matcher;
import java.util.regex.Pattern;

/** The run of calls that README.md shows answers as it says there. */
public final class ReadmeTest {
    private static final Pattern MADE =
        Pattern.compile("IntervalSplits storage = new IntervalSplits\\(([^)]*)\\);.*");
    private static final Pattern CALLED =
        Pattern.compile("storage\\.(\\w+)\\(([^)]*)\\); *// (-?\\d+).*");

    private ReadmeTest() {
    }

    public static void main(String[] args) throws IOException, ReflectiveOperationException {
        IntervalSplits x = null;
        int calls = 0;
        for (String line : Files.readAllLines(Path.of("README.md"))) {
            Matcher made = MADE.matcher(line);
            if (made.matches()) {
                long[] given = numbersIn(made.group(1));
                x = new IntervalSplits((int) given[0], (int) given[1], (int) given[2], (int) given[3]);
            } else if (line.startsWith("storage.")) {
                Matcher called = CALLED.matcher(line);
                Check.holds("form of the line " + line, called.matches());
                Check.due("README.md: " + line, Long.parseLong(called.group(3)),
                    answer(x, called.group(1), numbersIn(called.group(2))));
                calls++;
            }
        }
        Check.holds("README.md shows a run of calls", calls > 0);
        Check.end();
    }

    private static long[] numbersIn(String list) {
        if (list.isEmpty()) {
            return new long[0];
        }
        String[] texts = list.split(", ");
        long[] numbers = new long[texts.length];
        for (int i = 0; i < texts.length; i++) {
            numbers[i] = Long.parseLong(texts[i]);
        }
        return numbers;
    }

    private static long answer(IntervalSplits x, String name, long[] given)
            throws ReflectiveOperationException {
        for (Method method : IntervalSplits.class.getMethods()) {
            if (method.getName().equals(name)) {
                Object[] arguments = new Object[given.length];
                for (int i = 0; i < given.length; i++) {
                    boolean isLong = method.getParameterTypes()[i] == long.class;
                    arguments[i] = isLong ? (Object) given[i] : (Object) (int) given[i];
                }
                return ((Number) method.invoke(x, arguments)).longValue();
            }
        }
        throw new IllegalArgumentException("no method " + name);
    }
}
