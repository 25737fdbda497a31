import java.io.IOException;
import java.lang.reflect.InvocationTargetException;
import java.lang.reflect.Method;
import java.nio.file.Files;
import java.nio.file.Path;
import java.util.regex.Matcher;
import java.util.regex.Pattern;

/** The example of README.md, call by call: each answer that stands behind a call there is the one that comes. */
final class ReadmeTest {
    private static final Check CHECK = new Check("ReadmeTest");
    private static final Pattern MADE = Pattern.compile("TruthCord x = new TruthCord\\(\\);");
    private static final Pattern TAPE = Pattern.compile("tape\\(x, (.*)\\);(\\s*//.*)?");
    private static final Pattern CALL = Pattern.compile("x\\.(\\w+)\\(([^)]*)\\);\\s*// (throws \\w+|\\w+|-\\d+)(:.*)?");

    private ReadmeTest() { }

    public static void main(String[] args) throws IOException {
        String readme = Files.readString(Path.of(System.getProperty("readme", "README.md")));
        Matcher block = Pattern.compile("(?s)```java\n(.*?)```").matcher(readme);
        CHECK.yes("README.md has an example", block.find());
        example(block.group(1).split("\n"));
        CHECK.no("README.md has another one, which nothing tests", block.find());
        CHECK.finish();
    }

    private static void example(String[] lines) {
        TruthCord x = null;
        int calls = 0;
        for (String line : lines) {
            Matcher tape = TAPE.matcher(line);
            Matcher call = CALL.matcher(line);
            if (MADE.matcher(line).matches()) {
                x = new TruthCord();
            } else if (tape.matches()) {
                put(x, tape.group(1));
            } else if (call.matches()) {
                String got = answer(x, call.group(1), numbers(call.group(2)));
                String want = call.group(3).equals("NONE") ? "-1" : call.group(3);
                CHECK.yes("'" + line + "' answered " + got, want.equals(got));
                calls++;
            } else {
                CHECK.yes("'" + line + "' is understood", line.isEmpty() || line.startsWith("// "));
            }
        }
        CHECK.yes("there are calls in it", calls > 0);
    }

    private static void put(TruthCord x, String what) {
        if (what.startsWith("\"")) {
            Check.tape(x, what.substring(1, what.length() - 1));
        } else {
            Check.tape(x, numbers(what));
        }
    }

    private static int[] numbers(String row) {
        if (row.isEmpty()) {
            return new int[0];
        }
        String[] parts = row.split(", ");
        int[] all = new int[parts.length];
        for (int i = 0; i < parts.length; i++) {
            all[i] = Long.decode(parts[i]).intValue();
        }
        return all;
    }

    private static String answer(TruthCord x, String name, int[] numbers) {
        Class<?>[] types = new Class<?>[numbers.length];
        Object[] given = new Object[numbers.length];
        for (int i = 0; i < numbers.length; i++) {
            types[i] = int.class;
            given[i] = numbers[i];
        }
        try {
            Method called = TruthCord.class.getMethod(name, types);
            return String.valueOf(called.invoke(x, given));
        } catch (InvocationTargetException e) {
            return "throws " + e.getCause().getClass().getSimpleName();
        } catch (ReflectiveOperationException e) {
            return "nothing, as there is no such call";
        }
    }
}
