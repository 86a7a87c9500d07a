import java.lang.reflect.InvocationTargetException;
import java.lang.reflect.Method;
import java.lang.reflect.Modifier;
import java.nio.file.Files;
import java.nio.file.Path;
import java.util.Arrays;
import java.util.HashMap;
import java.util.HashSet;
import java.util.List;
import java.util.Map;
import java.util.Set;
import java.util.regex.Matcher;
import java.util.regex.Pattern;

/** The calls that README.md shows answer what their comments there begin with. */
final class ReadmeTest {
    private static final Pattern CALL =
            Pattern.compile("(?:int (\\w+) = )?table\\.(\\w+)\\(([^)]*)\\); *// (-?\\w+).*");

    private final Check check = new Check("ReadmeTest");
    private final Cogwright table = new Cogwright();
    private final Map<String, Integer> named = new HashMap<>();
    private final Set<String> called = new HashSet<>();

    public static void main(String[] args) throws Exception {
        new ReadmeTest().run(Files.readAllLines(Path.of("README.md")));
    }

    private void run(List<String> readme) throws Exception {
        int first = readme.indexOf("```java") + 1;
        check.holds("the example begins with a new object",
                readme.get(first).equals("Cogwright table = new Cogwright();"));
        for (int i = first + 1; !readme.get(i).equals("```"); i++) {
            line(readme.get(i));
        }
        check.holds("the example calls most of the class, but only " + called, called.size() > 12);
        everyCallIsTold(String.join("\n", readme));
        check.end();
    }

    private void line(String shown) throws Exception {
        Matcher call = CALL.matcher(shown);
        if (!call.matches()) {
            check.holds("not a call with its answer: " + shown, false);
            return;
        }
        String got = String.valueOf(answer(call.group(2), call.group(3)));
        check.holds(shown + " answered " + got, got.equals(call.group(4)));
        if (call.group(1) != null) {
            named.put(call.group(1), Integer.parseInt(got));
        }
    }

    private Object answer(String name, String arguments) throws Exception {
        called.add(name);
        Object[] values = arguments.isEmpty() ? new Object[0]
                : Arrays.stream(arguments.split(", ")).map(this::value).toArray();
        Class<?>[] types = new Class<?>[values.length];
        Arrays.fill(types, int.class);
        Method method = Cogwright.class.getMethod(name, types);
        try {
            return method.invoke(table, values);
        } catch (InvocationTargetException e) {
            return e.getCause();
        }
    }

    private Object value(String argument) {
        return named.containsKey(argument) ? named.get(argument) : Integer.valueOf(argument);
    }

    private void everyCallIsTold(String readme) {
        for (Method method : Cogwright.class.getDeclaredMethods()) {
            if (Modifier.isPublic(method.getModifiers())) {
                check.holds("README.md does not tell of " + method.getName(),
                        readme.contains("`" + method.getName() + "`"));
            }
        }
    }
}
