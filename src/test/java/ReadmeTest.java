import java.io.IOException;
import java.lang.reflect.Method;
import java.lang.reflect.Modifier;
import java.nio.file.Files;
import java.nio.file.Path;
import java.util.regex.Matcher;
import java.util.regex.Pattern;

/** What README.md tells of the class's use is so. */
public final class ReadmeTest {
    private static final Pattern TAPE = Pattern.compile("\"([^\"]+)\"\\.toCharArray");
    private static final Pattern CALL = Pattern.compile("(?m)^x\\.(\\w+)\\(([^)]*)\\); +// (-?\\d+)");

    public static void main(String[] args) throws ReflectiveOperationException, IOException {
        String text = Files.readString(Path.of("README.md"));
        String example = between(text, "```java\n", "```");
        String table = between(text, "### The calls", "### A sky");
        answers(example);
        for (Method one : StarCustody.class.getDeclaredMethods()) {
            if (Modifier.isPublic(one.getModifiers())) {
                Check.due(one.getName() + " in the table", table.contains("`" + one.getName() + "`") ? 1 : 0, 1);
            }
        }
        Check.end("ReadmeTest");
    }

    private static String between(String text, String start, String end) {
        int from = text.indexOf(start) + start.length();
        return text.substring(from, text.indexOf(end, from));
    }

    private static void answers(String example) throws ReflectiveOperationException {
        StarCustody x = new StarCustody();
        Matcher tape = TAPE.matcher(example);
        Check.due("a tape in the example", tape.find() ? 1 : 0, 1);
        Check.feed(x, tape.group(1));
        int calls = 0;
        for (Matcher call = CALL.matcher(example); call.find(); calls++) {
            Check.due(call.group(), answer(x, call.group(1), call.group(2)), Long.parseLong(call.group(3)));
        }
        Check.due("calls in the example", calls, example.lines().filter(line -> line.startsWith("x.")).count());
    }

    private static long answer(StarCustody x, String name, String values) throws ReflectiveOperationException {
        String[] each = values.isEmpty() ? new String[0] : values.split(", ");
        for (Method one : StarCustody.class.getDeclaredMethods()) {
            if (one.getName().equals(name) && Modifier.isPublic(one.getModifiers())) {
                Object[] all = new Object[each.length];
                for (int i = 0; i < each.length; i++) {
                    boolean isYes = one.getParameterTypes()[i] == boolean.class;
                    all[i] = isYes ? (Object) Boolean.valueOf(each[i]) : (Object) Integer.valueOf(each[i]);
                }
                return ((Number) one.invoke(x, all)).longValue();
            }
        }
        throw new NoSuchMethodException(name);
    }
}
