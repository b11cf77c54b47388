import java.io.IOException;
import java.lang.reflect.Method;
import java.lang.reflect.Modifier;
import java.nio.file.Files;
import java.nio.file.Path;
import java.util.HashSet;
import java.util.Set;
import java.util.regex.Matcher;
import java.util.regex.Pattern;

/** The calls that README.md shows answer what stands behind them, and none of the face is missing. */
public final class ReadmeTest {
    private static final Pattern CALL = Pattern.compile("x\\.(\\w+)\\((.*)\\);\\s+// (true|false|-?\\d+)\\b.*");
    private static final Due DUE = new Due();

    public static void main(String[] args) throws IOException, ReflectiveOperationException {
        DUE.about("README.md");
        RateChains x = new RateChains();
        Set<String> shown = new HashSet<>();
        for (String line : Files.readAllLines(Path.of("README.md"))) {
            if (line.startsWith("x.")) {
                shown.add(answersAsTold(x, line));
            }
        }
        for (Method method : RateChains.class.getDeclaredMethods()) {
            if (Modifier.isPublic(method.getModifiers())) {
                DUE.yes(method.getName() + " is shown", shown.contains(method.getName()));
            }
        }
        DUE.end();
    }

    private static String answersAsTold(RateChains x, String line) throws ReflectiveOperationException {
        Matcher call = CALL.matcher(line);
        DUE.yes("a call with its answer: " + line, call.matches());
        if (!call.matches()) {
            return "";
        }
        Method method = methodOf(call.group(1));
        String words = call.group(2);
        String[] each = words.isEmpty() ? new String[0] : words.split(", ");
        Object[] values = new Object[each.length];
        for (int i = 0; i < each.length; i++) {
            values[i] = valueOf(each[i], method.getParameterTypes()[i]);
        }
        String got = String.valueOf(method.invoke(x, values));
        DUE.yes(line + " answered " + got, got.equals(call.group(3)));
        return call.group(1);
    }

    private static Method methodOf(String name) throws ReflectiveOperationException {
        for (Method method : RateChains.class.getDeclaredMethods()) {
            if (method.getName().equals(name) && Modifier.isPublic(method.getModifiers())) {
                return method;
            }
        }
        throw new NoSuchMethodException(name);
    }

    private static Object valueOf(String word, Class<?> type) {
        long value = word.startsWith("'") ? word.charAt(1) : Long.parseLong(word);
        if (type == int.class) {
            return (int) value;
        }
        return value;
    }
}
