import java.io.IOException;
import java.lang.reflect.Method;
import java.lang.reflect.Modifier;
import java.nio.file.Files;
import java.nio.file.Path;
import java.util.Arrays;
import java.util.Set;
import java.util.TreeSet;
import java.util.regex.Matcher;
import java.util.regex.Pattern;

/** The examples in README.md: each call there answers what its comment begins with. */
public final class ReadmeTests extends Asked {
    private static final String NEW_OBJECT = "MarkedSteps x = new MarkedSteps();";
    private static final Pattern CALL_LINE = Pattern.compile("x\\.(\\w+)\\(([-0-9, ]*)\\);\\s*// (-?\\d+): .*");
    private static final Set<String> CALLED = new TreeSet<>();

    private static int answer(MarkedSteps x, String name, String numbers) throws ReflectiveOperationException {
        Object[] given = numbers.isBlank() ? new Object[0]
            : Arrays.stream(numbers.split(",")).map(n -> (Object) Integer.valueOf(n.trim())).toArray();
        Class<?>[] types = new Class<?>[given.length];
        Arrays.fill(types, int.class);
        Method method = MarkedSteps.class.getMethod(name, types);
        return (Integer) method.invoke(x, given);
    }

    /** Every line of an example is looked at: one that is no call with its answer is a fault by itself. */
    private static void ask(String example) throws ReflectiveOperationException {
        MarkedSteps x = null;
        for (String line : example.strip().split("\n")) {
            if (line.equals(NEW_OBJECT)) {
                x = new MarkedSteps();
                continue;
            }
            Matcher call = CALL_LINE.matcher(line);
            boolean told = x != null && call.matches();
            due("README.md tells a call and its answer: " + line, told ? 1 : 0, 1);
            if (told) {
                CALLED.add(call.group(1));
                due("README.md: " + line, answer(x, call.group(1), call.group(2)), Integer.parseInt(call.group(3)));
            }
        }
    }

    private static void namesEveryCall(String text) {
        for (Method m : MarkedSteps.class.getDeclaredMethods()) {
            if (Modifier.isPublic(m.getModifiers())) {
                due("README.md names " + m.getName(), text.contains("`" + m.getName() + "`") ? 1 : 0, 1);
            }
        }
    }

    public static void main(String[] args) throws IOException, ReflectiveOperationException {
        String text = Files.readString(Path.of(System.getProperty("project.root", "."), "README.md"));
        Matcher examples = Pattern.compile("```java\n(.*?)```", Pattern.DOTALL).matcher(text);
        int found = 0;
        while (examples.find()) {
            found++;
            ask(examples.group(1));
        }
        due("README.md has its examples", found, 3);
        due("they run, walk and look", CALLED.containsAll(Set.of("member", "act", "handler", "run", "walk", "step")) ? 1 : 0, 1);
        namesEveryCall(text);
        tellAndEnd();
    }
}
