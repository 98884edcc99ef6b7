import java.io.IOException;
import java.lang.reflect.Method;
import java.nio.file.Files;
import java.nio.file.Path;
import java.util.HashMap;
import java.util.Map;
import java.util.Set;
import java.util.TreeSet;
import java.util.regex.Matcher;
import java.util.regex.Pattern;

/** The calls that README.md shows, each with the answer that it shows, and all of the face there. */
public final class ReadmeTest {
    private static final Pattern CALL =
            Pattern.compile("(?:int (\\w+) = )?dig\\.(\\w+)\\((.*)\\); +// (\\w+)(?:: .*)?");
    private static final String MADE = "RelationOrder dig = new RelationOrder();";

    private final RelationOrder dig = new RelationOrder();
    private final Map<String, Integer> names = new HashMap<>();
    private final Set<String> unused = new TreeSet<>();

    private ReadmeTest() {
        for (Method m : RelationOrder.class.getMethods()) {
            if (m.getDeclaringClass() == RelationOrder.class) {
                unused.add(m.getName());
            }
        }
    }

    public static void main(String[] args) throws IOException, ReflectiveOperationException {
        ReadmeTest test = new ReadmeTest();
        boolean inside = false;
        for (String line : Files.readAllLines(Path.of("README.md"))) {
            if (line.startsWith("```")) {
                inside = line.equals("```java");
            } else if (inside && !line.isEmpty() && !line.equals(MADE)) {
                test.check(line);
            }
        }
        Expect.yes("README.md shows every method; left are " + test.unused, test.unused.isEmpty());
        Expect.end();
    }

    private void check(String line) throws ReflectiveOperationException {
        Matcher call = CALL.matcher(line);
        if (!call.matches()) {
            Expect.report("no call with an answer: " + line);
            return;
        }
        String got = answer(call.group(2), call.group(3));
        String due = call.group(4).equals("NONE") ? String.valueOf(RelationOrder.NONE) : call.group(4);
        Expect.sameText(line, due, got);
        if (call.group(1) != null) {
            names.put(call.group(1), Integer.valueOf(got));
        }
        unused.remove(call.group(2));
    }

    private String answer(String method, String list) throws ReflectiveOperationException {
        String[] texts = list.isEmpty() ? new String[0] : list.split(", ");
        Class<?>[] types = new Class<?>[texts.length];
        Object[] numbers = new Object[texts.length];
        for (int i = 0; i < texts.length; i++) {
            types[i] = int.class;
            numbers[i] = names.containsKey(texts[i]) ? names.get(texts[i]) : Integer.valueOf(texts[i]);
        }
        return String.valueOf(RelationOrder.class.getMethod(method, types).invoke(dig, numbers));
    }
}
