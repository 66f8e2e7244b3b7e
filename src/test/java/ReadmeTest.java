import java.io.IOException;
import java.lang.reflect.InvocationTargetException;
import java.lang.reflect.Method;
import java.nio.file.Files;
import java.nio.file.Path;
import java.util.Set;
import java.util.TreeSet;
import java.util.regex.Matcher;
import java.util.regex.Pattern;

/** README.md tells what is so: each call of its example, each name of a call; the argument is the file. */
public final class ReadmeTest {
    private static final Pattern CALL = Pattern.compile("x\\.(\\w+)\\(([^)]*)\\);\\s+// (-?\\d+)(:.*)?");

    public static void main(String[] args) throws IOException, ReflectiveOperationException {
        String page = Files.readString(Path.of(args[0]));
        int from = page.indexOf("```java\n");
        int to = page.indexOf("```", from + 1);
        Check.holds("there is an example", from >= 0 && to > from);
        example(page.substring(from + 8, to).split("\n"));
        for (Method method : SlashKinds.class.getDeclaredMethods()) {
            if (!method.isSynthetic() && java.lang.reflect.Modifier.isPublic(method.getModifiers())) {
                told(page.substring(to), method);
            }
        }
        Check.end("ReadmeTest");
    }

    private static void example(String[] lines) throws ReflectiveOperationException {
        SlashKinds x = new SlashKinds();
        Check.holds("the first line makes the object", lines[0].equals("SlashKinds x = new SlashKinds();"));
        for (int n = 1; n < lines.length; n++) {
            Matcher call = CALL.matcher(lines[n]);
            boolean right = call.matches();
            Check.holds("a call with its answer: " + lines[n], right);
            if (right) {
                Check.due(lines[n], answer(x, call.group(1), call.group(2).split(", ")), Long.parseLong(call.group(3)));
            }
        }
    }

    private static int answer(SlashKinds x, String name, String[] told) throws ReflectiveOperationException {
        for (Method method : SlashKinds.class.getDeclaredMethods()) {
            if (method.getName().equals(name) && method.getParameterCount() == told.length) {
                Object[] numbers = new Object[told.length];
                for (int k = 0; k < told.length; k++) {
                    long number = number(told[k]);
                    if (method.getParameterTypes()[k] == long.class) {
                        numbers[k] = number;
                    } else {
                        numbers[k] = (int) number;
                    }
                }
                return (int) method.invoke(x, numbers);
            }
        }
        throw new InvocationTargetException(null, "no call " + name);
    }

    private static long number(String told) {
        return told.startsWith("'") ? told.charAt(1) : Long.decode(told.replace("L", ""));
    }

    /** Its name and as many arguments stand on the page. */
    private static void told(String page, Method method) {
        Matcher found = Pattern.compile("`" + method.getName() + "\\(([^)]*)\\)`").matcher(page);
        Set<Integer> counts = new TreeSet<>();
        while (found.find()) {
            counts.add(found.group(1).isEmpty() ? 0 : found.group(1).split(",").length);
        }
        Check.holds(method.getName() + " is told with its arguments", counts.equals(Set.of(method.getParameterCount())));
    }
}
