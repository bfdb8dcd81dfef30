import java.io.IOException;
import java.lang.reflect.Method;
import java.lang.reflect.Modifier;
import java.nio.file.Files;
import java.nio.file.Path;
import java.util.ArrayList;
import java.util.List;
import java.util.Set;
import java.util.TreeSet;
import java.util.regex.Matcher;
import java.util.regex.Pattern;

/**
 * Makes the calls of README.md's examples and compares the answers that it shows; README.md also has
 * to name every call. It is run from the top of the checkout.
 */
public final class ReadmeTest {
    private static final Path README = Path.of("README.md");
    private static final String NEW_OBJECT = "BlockRows rows = new BlockRows();";
    private static final Pattern CALL = Pattern.compile("rows\\.(\\w+)\\((.*)\\); *// (-?\\w+)(:.*)?");

    private static final Set<String> shown = new TreeSet<>();
    private static int wrong = 0;

    private static void tell(String fault) {
        wrong++;
        System.out.println("README.md: " + fault);
    }

    private static List<List<String>> examples(List<String> lines) {
        List<List<String>> examples = new ArrayList<>();
        boolean inside = false;
        for (String line : lines) {
            if (line.equals("```java")) {
                inside = true;
                examples.add(new ArrayList<>());
            } else if (line.startsWith("```")) {
                inside = false;
            } else if (inside && !line.isBlank()) {
                examples.get(examples.size() - 1).add(line);
            }
        }
        return examples;
    }

    private static void run(List<String> example) {
        if (example.isEmpty() || !example.get(0).equals(NEW_OBJECT)) {
            tell("an example does not begin with " + NEW_OBJECT);
            return;
        }
        BlockRows rows = new BlockRows();
        for (String line : example.subList(1, example.size())) {
            Matcher call = CALL.matcher(line);
            if (call.matches()) {
                compare(rows, call);
            } else {
                tell("this is no call with its answer: " + line);
            }
        }
    }

    private static void compare(BlockRows rows, Matcher call) {
        String name = call.group(1);
        String[] told = call.group(2).isEmpty() ? new String[0] : call.group(2).split(", ");
        Method method = methodOf(name, told.length);
        if (method == null) {
            tell("there is no such call: " + name + " of " + told.length);
            return;
        }
        shown.add(name);
        String got = answer(rows, method, told);
        if (!got.equals(call.group(3))) {
            tell(name + "(" + call.group(2) + ") answered " + got + ", README.md says " + call.group(3));
        }
    }

    private static List<Method> calls() {
        List<Method> calls = new ArrayList<>();
        for (Method method : BlockRows.class.getDeclaredMethods()) {
            if (Modifier.isPublic(method.getModifiers())) {
                calls.add(method);
            }
        }
        return calls;
    }

    private static Method methodOf(String name, int parameters) {
        for (Method method : calls()) {
            if (method.getName().equals(name) && method.getParameterCount() == parameters) {
                return method;
            }
        }
        return null;
    }

    private static String answer(BlockRows rows, Method method, String[] told) {
        Class<?>[] types = method.getParameterTypes();
        Object[] arguments = new Object[told.length];
        try {
            for (int k = 0; k < told.length; k++) {
                arguments[k] = types[k] == boolean.class ? (Object) truth(told[k]) : (Object) Integer.valueOf(told[k]);
            }
            return String.valueOf(method.invoke(rows, arguments));
        } catch (ReflectiveOperationException | IllegalArgumentException e) {
            return e.toString();
        }
    }

    private static Boolean truth(String told) {
        if (!told.equals("true") && !told.equals("false")) {
            throw new IllegalArgumentException("neither true nor false: " + told);
        }
        return told.equals("true");
    }

    private static void namesEveryCall(List<String> lines) {
        for (Method method : calls()) {
            String name = method.getName();
            if (!shown.contains(name)) {
                tell("no example shows " + name);
            }
            if (lines.stream().noneMatch(line -> line.startsWith("| `" + name + "("))) {
                tell("the table of calls does not name " + name);
            }
        }
    }

    public static void main(String[] args) throws IOException {
        List<String> lines = Files.readAllLines(README);
        for (List<String> example : examples(lines)) {
            run(example);
        }
        namesEveryCall(lines);
        System.out.println(wrong == 0 ? "README.md is as due" : wrong + " things in README.md are not as due");
        if (wrong != 0) {
            System.exit(1);
        }
    }
}
