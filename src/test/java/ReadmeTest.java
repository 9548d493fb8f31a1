import java.lang.reflect.Method;
import java.lang.reflect.Modifier;
import java.nio.file.Files;
import java.nio.file.Path;
import java.util.Set;
import java.util.TreeSet;
import java.util.regex.Matcher;
import java.util.regex.Pattern;

/** README.md tells the truth: the calls of its example are made, and its table has the calls of the face. */
public final class ReadmeTest {
    private static final Pattern CALL = Pattern.compile("x\\.(\\w+)\\(([^)]*)\\); *// (-?\\d+)(:.*)?");
    private static final Pattern TEXT = Pattern.compile("write\\(x, \"([^\"]*)\"\\);");
    private static final Pattern TOLD = Pattern.compile("(?m)^\\| `(\\w+)\\(([^)]*)\\)` \\|");

    private static Set<String> face() {
        Set<String> face = new TreeSet<>();
        for (Method method : BorderGuards.class.getDeclaredMethods()) {
            if (Modifier.isPublic(method.getModifiers())) {
                face.add(method.getName() + " " + method.getParameterCount());
            }
        }
        return face;
    }

    private static Set<String> told(String readme) {
        Set<String> told = new TreeSet<>();
        Matcher matcher = TOLD.matcher(readme);
        while (matcher.find()) {
            told.add(matcher.group(1) + " " + numbersIn(matcher.group(2)).length);
        }
        return told;
    }

    private static String[] numbersIn(String list) {
        return list.isEmpty() ? new String[0] : list.split(", ");
    }

    private static long call(BorderGuards x, String name, String[] numbers) throws Exception {
        for (Method method : BorderGuards.class.getDeclaredMethods()) {
            if (method.getName().equals(name) && method.getParameterCount() == numbers.length) {
                Object[] arguments = new Object[numbers.length];
                for (int i = 0; i < numbers.length; i++) {
                    boolean isLong = method.getParameterTypes()[i] == long.class;
                    arguments[i] = isLong ? (Object) Long.valueOf(numbers[i]) : (Object) Integer.valueOf(numbers[i]);
                }
                return ((Number) method.invoke(x, arguments)).longValue();
            }
        }
        throw new IllegalArgumentException("no call " + name);
    }

    private static int example(String readme) throws Exception {
        BorderGuards x = new BorderGuards();
        int calls = 0;
        for (String line : readme.substring(readme.indexOf("## An example")).split("\n")) {
            Matcher text = TEXT.matcher(line);
            Matcher call = CALL.matcher(line);
            if (text.matches()) {
                Due.write(x, text.group(1));
            } else if (call.matches()) {
                calls++;
                long got = call(x, call.group(1), numbersIn(call.group(2)));
                Due.is(line.trim(), got, Long.parseLong(call.group(3)));
            } else {
                Due.is("a call that is not read: " + line, line.startsWith("x.") ? 1 : 0, 0);
            }
        }
        return calls;
    }

    public static void main(String[] args) throws Exception {
        String readme = Files.readString(Path.of("README.md"));
        Due.same("the calls that are told", told(readme).toString(), face().toString());
        Due.is("an example of many calls", example(readme) > 40 ? 1 : 0, 1);
        Due.end();
    }
}
