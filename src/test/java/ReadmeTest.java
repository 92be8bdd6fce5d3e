import java.io.IOException;
import java.lang.reflect.InvocationTargetException;
import java.lang.reflect.Method;
import java.lang.reflect.Modifier;
import java.nio.file.Files;
import java.nio.file.Path;
import java.util.regex.Matcher;
import java.util.regex.Pattern;

/** What README.md says of the class is so. */
public final class ReadmeTest {
    private static final String FIRST = "GreenHours x = new GreenHours();";
    private static final Pattern EXAMPLE = Pattern.compile("(?s)```java\n(.*?)```");
    private static final Pattern CALL =
        Pattern.compile("x\\.(\\w+)\\(([^)]*)\\); +// (-?\\d+|true|false)(:.*)?");
    private static final Pattern ROW = Pattern.compile("(?m)^\\| `(\\w+)\\(([^)]*)\\)` \\|");

    private final String text;

    private ReadmeTest(String text) {
        this.text = text;
    }

    public static void main(String[] args) throws IOException {
        ReadmeTest t = new ReadmeTest(Files.readString(Path.of("README.md")));
        Check c = new Check("The README");
        c.test("the example", t::example);
        c.test("every call and no other, with as many numbers", t::table);
        c.end();
    }

    private void example(Check c) {
        Matcher block = EXAMPLE.matcher(text);
        c.due("there is an example", block.find(), true);
        String[] lines = block.group(1).split("\n");
        c.same("its first line", lines[0], FIRST);
        GreenHours x = new GreenHours();
        for (int i = 1; i < lines.length; i++) {
            Matcher call = CALL.matcher(lines[i]);
            boolean isCall = call.matches();
            c.due("a call and its answer: " + lines[i], isCall, true);
            if (isCall) {
                c.same(lines[i], answer(x, call.group(1), split(call.group(2))), call.group(3));
            }
        }
    }

    private void table(Check c) {
        int calls = 0;
        for (Method m : GreenHours.class.getDeclaredMethods()) {
            calls += Modifier.isPublic(m.getModifiers()) ? 1 : 0;
        }
        int rows = 0;
        for (Matcher row = ROW.matcher(text); row.find(); rows++) {
            Method m = method(row.group(1));
            c.due(row.group(1) + " is a call", m != null, true);
            c.due("numbers of " + row.group(1), split(row.group(2)).length,
                m == null ? -1 : m.getParameterCount());
        }
        c.due("rows", rows, calls);
    }

    private static String[] split(String list) {
        return list.isEmpty() ? new String[0] : list.split(", ");
    }

    /** No two public calls bear one name. */
    private static Method method(String name) {
        for (Method m : GreenHours.class.getDeclaredMethods()) {
            if (Modifier.isPublic(m.getModifiers()) && m.getName().equals(name)) {
                return m;
            }
        }
        return null;
    }

    private static String answer(GreenHours x, String name, String[] numbers) {
        Object[] values = new Object[numbers.length];
        for (int i = 0; i < numbers.length; i++) {
            values[i] = Integer.valueOf(numbers[i]);
        }
        Method m = method(name);
        if (m == null || m.getParameterCount() != values.length) {
            return "no such call";
        }
        try {
            return String.valueOf(m.invoke(x, values));
        } catch (IllegalAccessException | InvocationTargetException e) {
            return e.toString();
        }
    }
}
