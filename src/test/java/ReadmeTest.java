import java.io.IOException;
import java.lang.reflect.Method;
import java.nio.file.Files;
import java.nio.file.Path;
import java.util.HashMap;
import java.util.Map;
import java.util.TreeSet;
import java.util.regex.Matcher;
import java.util.regex.Pattern;

/** README.md: the calls under "Use" answer what stands behind them, and they use the whole face. */
public final class ReadmeTest {
    private static final Pattern CALL =
            Pattern.compile("(?:int (\\w+) = )?server\\.(\\w+)\\((.*)\\);(?:\\s*// (-?\\w+).*)?");

    private final Check check = new Check("README.md");
    private final ChunkedNodes server = new ChunkedNodes();
    private final Map<String, Long> named = new HashMap<>();
    private final TreeSet<String> called = new TreeSet<>();

    public static void main(String[] args) throws IOException, ReflectiveOperationException {
        new ReadmeTest().run(Path.of(System.getProperty("project", "."), "README.md"));
    }

    private void run(Path readme) throws IOException, ReflectiveOperationException {
        named.put("REFUSED", (long) ChunkedNodes.REFUSED);
        named.put("TAKEN", (long) ChunkedNodes.TAKEN);
        named.put("ANSWERED", (long) ChunkedNodes.ANSWERED);
        named.put("CLOSED", (long) ChunkedNodes.CLOSED);
        named.put("false", 0L);
        named.put("true", 1L);
        for (String line : Files.readAllLines(readme)) {
            if (line.contains("server.")) {
                callOf(line);
            }
        }
        for (Method method : ChunkedNodes.class.getDeclaredMethods()) {
            if (java.lang.reflect.Modifier.isPublic(method.getModifiers())) {
                check.same(method.getName() + " stands in it", called.contains(method.getName()), true);
            }
        }
        check.end();
    }

    private void callOf(String line) throws ReflectiveOperationException {
        Matcher parts = CALL.matcher(line);
        if (!parts.matches()) {
            check.fault("not a call with its answer: " + line);
            return;
        }
        Object got = invoke(parts.group(2), parts.group(3).isEmpty() ? new String[0] : parts.group(3).split(", "));
        if (got == null) {
            check.same(line + " has an answer", parts.group(4) != null, false);
            return;
        }
        long answer = got instanceof Boolean ? (Boolean) got ? 1 : 0 : (Integer) got;
        if (parts.group(1) != null) {
            named.put(parts.group(1), answer);
        }
        check.same(line, answer, parts.group(4) == null ? Long.MIN_VALUE : number(parts.group(4)));
    }

    private Object invoke(String name, String[] words) throws ReflectiveOperationException {
        called.add(name);
        for (Method method : ChunkedNodes.class.getMethods()) {
            if (method.getName().equals(name) && method.getParameterCount() == words.length) {
                Object[] arguments = new Object[words.length];
                for (int i = 0; i < words.length; i++) {
                    boolean isLong = method.getParameterTypes()[i] == long.class;
                    arguments[i] = isLong ? (Object) number(words[i]) : (Object) (int) number(words[i]);
                }
                return method.invoke(server, arguments);
            }
        }
        throw new NoSuchMethodException(name);
    }

    private long number(String word) {
        return named.containsKey(word) ? named.get(word) : Long.decode(word.replaceAll("L$", ""));
    }
}
