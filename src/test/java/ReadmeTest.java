import java.io.IOException;
import java.lang.reflect.Method;
import java.lang.reflect.Modifier;
import java.nio.file.Files;
import java.nio.file.Path;
import java.util.regex.Matcher;
import java.util.regex.Pattern;

/** README.md tells the truth: its run of calls answers what it says, and its table names every call. */
public final class ReadmeTest {
    private static final Pattern CALL = Pattern.compile("store[.](\\w+)[(](.*)[)]; +// (-?\\w+)(: .*)?");

    public static void main(String[] args) throws IOException, ReflectiveOperationException {
        String readme = Files.readString(Path.of("README.md"));
        example(readme.substring(readme.indexOf("```java"), readme.lastIndexOf("```")));
        table(readme);
        Due.end();
    }

    private static void example(String block) throws ReflectiveOperationException {
        FieldStore store = new FieldStore();
        int calls = 0;
        for (String line : block.split("\n")) {
            Matcher call = CALL.matcher(line);
            if (call.matches()) {
                calls++;
                int[] arguments = arguments(call.group(2));
                String got = Due.outcome(() -> Calls.answer(store, call.group(1), arguments));
                Due.same("README.md: " + line, due(call.group(3)), got);
            } else {
                Due.same("README.md: a call without its answer: " + line, "false", "" + line.startsWith("store."));
            }
        }
        Due.same("README.md: its run has calls", "true", "" + (calls > 0));
    }

    private static int[] arguments(String list) throws ReflectiveOperationException {
        String[] words = list.isEmpty() ? new String[0] : list.split(", ");
        int[] arguments = new int[words.length];
        for (int i = 0; i < words.length; i++) {
            arguments[i] = Integer.parseInt(due(words[i].replace("FieldStore.", "")));
        }
        return arguments;
    }

    /** The number behind a constant's name; a number or an exception's name as it is. */
    private static String due(String word) throws ReflectiveOperationException {
        return word.matches("[A-Z]+") ? "" + FieldStore.class.getField(word).get(null) : word;
    }

    private static void table(String readme) {
        for (Method method : FieldStore.class.getDeclaredMethods()) {
            if (Modifier.isPublic(method.getModifiers())) {
                int more = method.getParameterCount() - 1;
                String parameters = more < 0 ? "" : "\\w+(, \\w+){" + more + "}";
                Pattern named = Pattern.compile("`" + method.getName() + "[(]" + parameters + "[)]`");
                Due.same("README.md names " + method, "true", "" + named.matcher(readme).find());
            }
        }
    }
}
