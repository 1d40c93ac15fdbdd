import java.lang.reflect.InvocationTargetException;
import java.lang.reflect.Method;
import java.nio.file.Files;
import java.nio.file.Path;
import java.util.HashMap;
import java.util.Map;
import java.util.TreeSet;
import java.util.regex.Matcher;
import java.util.regex.Pattern;

/** The example of README.md: each call answers what stands behind it, and all calls of the face are there. */
public final class ReadmeTest {
    private static final Pattern EXAMPLE = Pattern.compile("(?s)```java\n(.*?)```");
    private static final Pattern CALL = Pattern.compile("(?:int (\\w+) = )?x\\.(\\w+)\\(([^()]*)\\); +// (\\w+)(?:: .*)?");

    private static final Check check = new Check("ReadmeTest");

    private static final Map<String, Integer> variables = new HashMap<>();
    private static final TreeSet<String> called = new TreeSet<>();

    public static void main(String[] args) throws Exception {
        Matcher example = EXAMPLE.matcher(Files.readString(Path.of("README.md")));
        Regionry x = null;
        while (example.find()) {
            for (String line : example.group(1).split("\n")) {
                if (line.equals("Regionry x = new Regionry();")) {
                    x = new Regionry();
                } else if (!line.isEmpty()) {
                    answerDue(x, line);
                }
            }
        }
        TreeSet<String> face = new TreeSet<>();
        for (Method method : Face.class.getMethods()) {
            face.add(method.getName());
        }
        check.same("the calls of the example", face.toString(), called.toString());
        check.end();
    }

    private static void answerDue(Regionry x, String line) throws ReflectiveOperationException {
        Matcher call = CALL.matcher(line);
        if (!call.matches()) {
            check.fail("a line that is no call with its answer: " + line);
            return;
        }
        String answered = answer(x, call.group(2), call.group(3));
        check.same(line, call.group(4), answered);
        if (call.group(1) != null) {
            variables.put(call.group(1), Integer.valueOf(answered));
        }
        called.add(call.group(2));
    }

    private static String answer(Regionry x, String name, String told) throws ReflectiveOperationException {
        String[] words = told.isEmpty() ? new String[0] : told.split(", ");
        Object[] arguments = new Object[words.length];
        for (int at = 0; at < words.length; at++) {
            arguments[at] = argument(words[at]);
        }
        try {
            return methodOf(name).invoke(x, arguments).toString();
        } catch (InvocationTargetException thrown) {
            return thrown.getCause().getClass().getSimpleName();
        }
    }

    private static Object argument(String word) throws ReflectiveOperationException {
        if (word.equals("true") || word.equals("false")) {
            return Boolean.valueOf(word);
        }
        if (word.startsWith("Regionry.")) {
            return Regionry.class.getField(word.substring("Regionry.".length())).get(null);
        }
        return variables.containsKey(word) ? variables.get(word) : Integer.valueOf(word);
    }

    private static Method methodOf(String name) {
        for (Method method : Regionry.class.getMethods()) {
            if (method.getName().equals(name)) {
                return method;
            }
        }
        throw new AssertionError("no call " + name);
    }
}
