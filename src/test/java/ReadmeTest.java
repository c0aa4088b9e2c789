import java.io.IOException;
import java.lang.reflect.Field;
import java.lang.reflect.Method;
import java.lang.reflect.Modifier;
import java.nio.file.Files;
import java.nio.file.Path;
import java.util.HashMap;
import java.util.HashSet;
import java.util.Map;
import java.util.Set;
import java.util.regex.Matcher;
import java.util.regex.Pattern;

/** What README.md tells of the class: the answers of its example, every call, every constant. */
final class ReadmeTest {
    private static final Path README = Path.of("README.md");
    private static final Pattern EXAMPLE = Pattern.compile("```java\\n(.*?)```", Pattern.DOTALL);
    private static final Pattern NEW_OBJECT =
        Pattern.compile("BindingKernel kernel = new BindingKernel\\((\\d+), (\\d+)\\);");
    private static final Pattern CALL = Pattern.compile("kernel\\.(\\w+)\\((.*)\\); +// (-?\\w+)(:.*)?");
    private static final Pattern ROW_OF_A_CALL =
        Pattern.compile("^\\| `(\\w+)\\(([^)]*)\\)` \\| [^|]+ \\| [^|]+ \\|$", Pattern.MULTILINE);

    private static final Map<String, Method> METHODS = new HashMap<>();
    private static final Map<String, Long> CONSTANTS = new HashMap<>();

    public static void main(String[] args) throws IOException, ReflectiveOperationException {
        String text = Files.readString(README);
        readFace();
        example(text);
        everyCallIsTold(text);
        everyConstantIsTold(text);
        Run.check("it says how to run the tests", text.contains("\n    .ci/run\n"));
        Run.end();
    }

    private static void readFace() throws IllegalAccessException {
        for (Method method : BindingKernel.class.getDeclaredMethods()) {
            if (Modifier.isPublic(method.getModifiers())) {
                METHODS.put(method.getName(), method);
            }
        }
        for (Field field : BindingKernel.class.getFields()) {
            CONSTANTS.put(field.getName(), field.getLong(null));
        }
    }

    private static void example(String text) throws ReflectiveOperationException {
        Matcher example = EXAMPLE.matcher(text);
        boolean isThere = example.find();
        Run.check("it has an example", isThere);
        if (!isThere) {
            return;
        }
        String[] lines = example.group(1).split("\n");
        Matcher made = NEW_OBJECT.matcher(lines[0]);
        boolean isMade = made.matches();
        Run.check("its example makes an object first", isMade);
        if (!isMade) {
            return;
        }
        BindingKernel kernel = new BindingKernel(
            Integer.parseInt(made.group(1)), Integer.parseInt(made.group(2)));
        for (int i = 1; i < lines.length; i++) {
            if (!lines[i].isBlank() && !lines[i].startsWith("//")) {
                call(kernel, lines[i]);
            }
        }
    }

    private static void call(BindingKernel kernel, String line) throws ReflectiveOperationException {
        Matcher call = CALL.matcher(line);
        boolean isCall = call.matches() && METHODS.containsKey(call.group(1));
        Run.check("a line of the example is a call with its answer: " + line, isCall);
        if (!isCall) {
            return;
        }
        String[] words = call.group(2).isEmpty() ? new String[0] : call.group(2).split(", ");
        Object[] arguments = new Object[words.length];
        for (int i = 0; i < words.length; i++) {
            boolean isTruth = words[i].equals("true") || words[i].equals("false");
            arguments[i] = isTruth ? (Object) Boolean.valueOf(words[i]) : (Object) Integer.valueOf(words[i]);
        }
        Number answer = (Number) METHODS.get(call.group(1)).invoke(kernel, arguments);
        Long told = CONSTANTS.get(call.group(3));
        long due = told == null ? Long.parseLong(call.group(3)) : told;
        Run.check("the example's answer, which is " + answer + ": " + line, answer.longValue() == due);
    }

    private static void everyCallIsTold(String text) {
        Set<String> left = new HashSet<>(METHODS.keySet());
        Matcher rows = ROW_OF_A_CALL.matcher(text);
        while (rows.find()) {
            String name = rows.group(1);
            Run.check(name + " is told once, and is a call", left.remove(name));
            int told = rows.group(2).isEmpty() ? 0 : rows.group(2).split(", ").length;
            Run.check(name + " is told with all that it takes",
                METHODS.containsKey(name) && METHODS.get(name).getParameterCount() == told);
        }
        Run.check("every call is told, but: " + left, left.isEmpty());
    }

    private static void everyConstantIsTold(String text) {
        for (Map.Entry<String, Long> constant : CONSTANTS.entrySet()) {
            Run.check(constant.getKey() + " is told with its value",
                text.contains("\n| `" + constant.getKey() + "` | " + constant.getValue() + " | "));
        }
    }
}
