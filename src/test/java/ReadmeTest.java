import java.io.IOException;
import java.lang.reflect.InvocationTargetException;
import java.lang.reflect.Method;
import java.nio.file.Files;
import java.nio.file.Path;
import java.util.Set;
import java.util.TreeSet;
import java.util.regex.Matcher;
import java.util.regex.Pattern;

/** The calls that README.md shows have the answers that it shows, and it names every call. */
public final class ReadmeTest {
    private static final Pattern CALL = Pattern.compile("x\\.(\\w+)\\(([^)]*)\\);\\s*// (-?\\w+).*");

    public static void main(String[] args) throws IOException, ReflectiveOperationException {
        Checks c = new Checks("readme");
        String readme = Files.readString(Path.of("README.md"));
        shownCalls(c, readme);
        everyCallIsNamed(c, readme);
        c.end();
    }

    private static void shownCalls(Checks c, String readme) throws ReflectiveOperationException {
        OrdersTold x = new OrdersTold();
        for (String line : readme.split("\n")) {
            if (!line.startsWith("x.")) {
                continue;
            }
            Matcher call = CALL.matcher(line);
            c.due("it has an answer: " + line, call.matches() ? 1 : 0, 1);
            if (call.matches()) {
                c.due(line, answer(x, call.group(1), call.group(2)), number(call.group(3)));
            }
        }
    }

    private static int answer(OrdersTold x, String name, String told) throws ReflectiveOperationException {
        Method method = publicMethod(name);
        Class<?>[] types = method.getParameterTypes();
        String[] texts = told.isEmpty() ? new String[0] : told.split(", ");
        Object[] values = new Object[texts.length];
        for (int i = 0; i < texts.length; i++) {
            long value = Long.decode(texts[i].replace("L", ""));
            if (types[i] == long.class) {
                values[i] = value;
            } else {
                values[i] = Math.toIntExact(value);
            }
        }
        try {
            return (Integer) method.invoke(x, values);
        } catch (InvocationTargetException e) {
            throw new IllegalStateException(name + "(" + told + ") threw", e.getCause());
        }
    }

    private static Method publicMethod(String name) {
        for (Method method : OrdersTold.class.getMethods()) {
            if (method.getDeclaringClass() == OrdersTold.class && method.getName().equals(name)) {
                return method;
            }
        }
        throw new IllegalStateException("README.md shows a call that is not there: " + name);
    }

    private static int number(String told) throws ReflectiveOperationException {
        return told.matches("[A-Z]+") ? OrdersTold.class.getField(told).getInt(null) : Integer.parseInt(told);
    }

    private static void everyCallIsNamed(Checks c, String readme) {
        Set<String> named = new TreeSet<>();
        Matcher rows = Pattern.compile("\\| `([a-z ]+)` *\\|").matcher(readme);
        while (rows.find()) {
            named.addAll(Set.of(rows.group(1).split(" ")));
        }
        Set<String> there = new TreeSet<>();
        for (Method method : OrdersTold.class.getMethods()) {
            if (method.getDeclaringClass() == OrdersTold.class) {
                there.add(method.getName());
            }
        }
        c.due("the table has just the calls that are there", named.equals(there) ? 1 : 0, 1);
    }
}
