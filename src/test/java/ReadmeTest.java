import java.io.IOException;
import java.lang.reflect.InvocationTargetException;
import java.lang.reflect.Method;
import java.lang.reflect.Modifier;
import java.nio.file.Files;
import java.nio.file.Path;
import java.util.ArrayList;
import java.util.HashMap;
import java.util.List;
import java.util.Map;
import java.util.Set;
import java.util.TreeSet;
import java.util.regex.Matcher;
import java.util.regex.Pattern;

/**
 * README.md: each answer that it shows is the one that the class gives, and each call is shown with
 * an answer and with each exception of its face. It is run where README.md stands.
 */
public final class ReadmeTest {
    private static final Pattern MAKE = Pattern.compile("FlowGuard (\\w+) = new FlowGuard\\(\\);");
    private static final Pattern CALL =
        Pattern.compile("(\\w+)\\.(\\w+)\\(([^)]*)\\);(?:\\s+// (throws \\w+|-?\\d+|true|false)(?:: .+)?)?");
    private static final Pattern AGAIN =
        Pattern.compile("for \\(int i = 0; i < (\\d+); i\\+\\+\\) (\\w+\\.\\w+\\([^)]*\\);)");
    private static final String NO_ANSWER = "nothing";

    private final Due due = new Due();
    private final Map<String, FlowGuard> objects = new HashMap<>();
    private final Set<String> shown = new TreeSet<>();

    public static void main(String[] args) throws IOException {
        ReadmeTest test = new ReadmeTest();
        for (String line : examples(Files.readAllLines(Path.of("README.md")))) {
            test.run(line);
        }
        test.due.is("what is shown", whatIsToBeShown(), () -> test.shown);
        test.due.end();
    }

    private static List<String> examples(List<String> lines) {
        List<String> found = new ArrayList<>();
        boolean within = false;
        for (String line : lines) {
            if (line.startsWith("```")) {
                within = line.equals("```java");
            } else if (within && !line.isBlank()) {
                found.add(line);
            }
        }
        return found;
    }

    private void run(String line) {
        Matcher make = MAKE.matcher(line);
        Matcher again = AGAIN.matcher(line);
        if (make.matches()) {
            objects.put(make.group(1), new FlowGuard());
        } else if (again.matches()) {
            for (int i = 0; i < Integer.parseInt(again.group(1)); i++) {
                call(again.group(2));
            }
        } else {
            call(line);
        }
    }

    /** A call with the answer behind it, or one that is made for what it does alone. */
    private void call(String line) {
        Matcher call = CALL.matcher(line);
        if (!call.matches() || !objects.containsKey(call.group(1))) {
            due.is(line, "an example that can be run", () -> "something else");
            return;
        }
        String name = call.group(2);
        Object got = Due.answerOf(() -> answer(objects.get(call.group(1)), name, call.group(3)));
        String want = call.group(4);
        if (want != null) {
            due.is(line, want, () -> got);
            shown.add(name + " " + (want.startsWith("throws") ? want : "answers"));
        } else {
            due.is(line + ", does it throw", false, () -> got.toString().startsWith("throws"));
            shown.addAll(got.equals(NO_ANSWER) ? Set.of(name + " answers") : Set.of());
        }
    }

    private static String answer(FlowGuard x, String name, String texts) {
        Object[] arguments = arguments(texts);
        Method method = methodOf(name);
        try {
            Object answer = method.invoke(x, arguments);
            return answer == null ? NO_ANSWER : answer.toString();
        } catch (InvocationTargetException thrown) {
            return "throws " + thrown.getCause().getClass().getSimpleName();
        } catch (IllegalAccessException hidden) {
            throw new IllegalStateException(hidden);
        }
    }

    private static Object[] arguments(String texts) {
        List<Object> found = new ArrayList<>();
        for (String text : texts.isEmpty() ? new String[0] : texts.split(", ")) {
            boolean isTruth = text.equals("true") || text.equals("false");
            found.add(isTruth ? (Object) Boolean.valueOf(text) : (Object) Integer.valueOf(text));
        }
        return found.toArray();
    }

    private static Method methodOf(String name) {
        for (Method method : FlowGuard.class.getDeclaredMethods()) {
            if (method.getName().equals(name) && Modifier.isPublic(method.getModifiers())) {
                return method;
            }
        }
        throw new IllegalStateException("no call " + name);
    }

    private static Set<String> whatIsToBeShown() {
        Set<String> found = new TreeSet<>();
        for (Method method : FlowGuard.class.getDeclaredMethods()) {
            if (Modifier.isPublic(method.getModifiers())) {
                found.add(method.getName() + " answers");
                for (Class<?> exception : method.getExceptionTypes()) {
                    found.add(method.getName() + " throws " + exception.getSimpleName());
                }
            }
        }
        return found;
    }
}
