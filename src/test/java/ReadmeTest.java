import java.io.IOException;
import java.lang.reflect.InvocationTargetException;
import java.lang.reflect.Method;
import java.lang.reflect.Modifier;
import java.nio.file.Files;
import java.nio.file.Path;
import java.util.Set;
import java.util.TreeSet;
import java.util.regex.Matcher;
import java.util.regex.Pattern;

/** Makes the calls of README.md's example, run from the project's directory, and holds it to its answers. */
public final class ReadmeTest {
    private static final Check CHECK = new Check();
    private static final Pattern EXAMPLE = Pattern.compile("```java\n(.*?)```", Pattern.DOTALL);
    private static final Pattern CALL = Pattern.compile("desk\\.(\\w+)\\((.*?)\\);(?:\\s*// (.*))?");
    private static final Pattern ANSWER = Pattern.compile("(-?\\d+|true|false|throws \\w+)\\b.*");

    public static void main(String[] args) throws IOException {
        Matcher example = EXAMPLE.matcher(Files.readString(Path.of("README.md")));
        CHECK.due("README.md has an example", example.find(), true);
        RescueDesk desk = new RescueDesk();
        Set<String> called = new TreeSet<>();
        for (String line : example.group(1).split("\n")) {
            Matcher call = CALL.matcher(line);
            if (call.matches()) {
                called.add(call.group(1));
                CHECK.due(line, answer(desk, methodOf(call.group(1)), call.group(2)), told(call));
            } else {
                CHECK.due("a line that is no call: " + line, isNoCall(line), true);
            }
        }
        CHECK.due("the calls of the example", called.toString(), face().toString());
        CHECK.end();
    }

    private static boolean isNoCall(String line) {
        return line.isEmpty() || line.startsWith("// ") || line.equals("RescueDesk desk = new RescueDesk();");
    }

    /** What README.md says that a call answers; only a call that answers nothing may be told without it. */
    private static String told(Matcher call) {
        Matcher answer = ANSWER.matcher(call.group(3) == null ? "" : call.group(3));
        if (methodOf(call.group(1)).getReturnType() == void.class) {
            return answer.matches() && answer.group(1).startsWith("throws ") ? answer.group(1) : "nothing";
        }
        return answer.matches() ? answer.group(1) : "told by README.md";
    }

    private static Method methodOf(String name) {
        for (Method method : RescueDesk.class.getDeclaredMethods()) {
            if (method.getName().equals(name)) {
                return method;
            }
        }
        throw new IllegalArgumentException("README.md calls " + name + ", which the class does not have");
    }

    private static Set<String> face() {
        Set<String> names = new TreeSet<>();
        for (Method method : RescueDesk.class.getDeclaredMethods()) {
            if (Modifier.isPublic(method.getModifiers())) {
                names.add(method.getName());
            }
        }
        return names;
    }

    private static String answer(RescueDesk desk, Method method, String arguments) {
        String[] texts = arguments.isEmpty() ? new String[0] : arguments.split(", ");
        Object[] values = new Object[texts.length];
        for (int i = 0; i < texts.length; i++) {
            boolean isBoolean = method.getParameterTypes()[i] == boolean.class;
            values[i] = isBoolean ? (Object) Boolean.valueOf(texts[i]) : (Object) Integer.valueOf(texts[i]);
        }
        try {
            Object answer = method.invoke(desk, values);
            return answer == null ? "nothing" : answer.toString();
        } catch (InvocationTargetException e) {
            return "throws " + e.getCause().getClass().getSimpleName();
        } catch (IllegalAccessException e) {
            return "not to be called";
        }
    }
}
