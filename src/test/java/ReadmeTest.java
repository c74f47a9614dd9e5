import java.io.IOException;
import java.lang.reflect.Method;
import java.lang.reflect.Modifier;
import java.nio.file.Files;
import java.nio.file.Path;
import java.util.HashMap;
import java.util.List;
import java.util.Map;
import java.util.regex.Matcher;
import java.util.regex.Pattern;

/** README.md tells the truth: its example answers as it says, and no call and no code is left out. */
public final class ReadmeTest {
    private static final Pattern BLOCK = Pattern.compile("```java\n(.*?)```", Pattern.DOTALL);
    private static final Pattern CALL = Pattern.compile("x\\.(\\w+)\\(([^)]*)\\);\\s+// (-?\\d+)\\b.*");
    private static final Map<String, Method> FACE = new HashMap<>();

    public static void main(String[] args) throws IOException, ReflectiveOperationException {
        for (Method method : FootOut.class.getDeclaredMethods()) {
            if (Modifier.isPublic(method.getModifiers())) {
                FACE.put(method.getName(), method);
            }
        }
        String readme = Files.readString(Path.of("README.md"));
        Matcher block = BLOCK.matcher(readme);
        int calls = 0;
        while (block.find()) {
            calls += answers(block.group(1).split("\n"));
        }
        Check.isTrue("README.md has an example", calls > 20);
        for (String name : FACE.keySet()) {
            Check.isTrue("README.md names " + name, readme.contains("`" + name + "`"));
        }
        for (String code : List.of("-2", "-3", "-5", "-6", "-7", "-31 to -35", "-100", "-1000", "-1000000")) {
            Check.isTrue("README.md tells " + code, Pattern.compile("(?<![\\d-])" + code + "(?!\\d)").matcher(readme).find());
        }
        Check.isTrue("README.md tells how to run the tests", readme.contains("\n.ci/run\n"));
        Check.end();
    }

    /** Each line of the example is a new object, a remark, or a call with what it answers. */
    private static int answers(String[] lines) throws ReflectiveOperationException {
        FootOut x = null;
        int calls = 0;
        for (String line : lines) {
            Matcher call = CALL.matcher(line);
            if (line.equals("FootOut x = new FootOut();")) {
                x = new FootOut();
            } else if (call.matches()) {
                Check.due("README.md: " + line, answer(x, call.group(1), call.group(2).split(", ")), Long.parseLong(call.group(3)));
                calls++;
            } else {
                Check.isTrue("README.md: '" + line + "'", line.isEmpty() || line.startsWith("//"));
            }
        }
        return calls;
    }

    private static long answer(FootOut x, String name, String[] told) throws ReflectiveOperationException {
        Method method = FACE.get(name);
        Class<?>[] types = method.getParameterTypes();
        Object[] given = new Object[types.length];
        for (int i = 0; i < given.length; i++) {
            if (types[i] == boolean.class) {
                given[i] = told[i].equals("true");
            } else if (types[i] == long.class) {
                given[i] = Long.decode(told[i]);
            } else {
                given[i] = told[i].equals("NONE") ? Integer.valueOf(FootOut.NONE) : Integer.decode(told[i]);
            }
        }
        return ((Number) method.invoke(x, given)).longValue();
    }
}
