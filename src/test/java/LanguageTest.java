import java.io.IOException;
import java.lang.reflect.Executable;
import java.lang.reflect.Field;
import java.lang.reflect.Modifier;
import java.nio.charset.StandardCharsets;
import java.nio.file.Files;
import java.nio.file.Path;
import java.util.ArrayList;
import java.util.Arrays;
import java.util.List;
import java.util.Set;
import java.util.TreeSet;
import java.util.regex.Matcher;
import java.util.regex.Pattern;

/** Those rules of ../shared/LANGUAGE.md that the text of FieldStore.java and its compiled classes show, by number. */
public final class LanguageTest {
    private static final Path SOURCE = Path.of("src/main/java/FieldStore.java");
    private static final Set<String> THROWN = Set.of("IllegalStateException", "IllegalArgumentException",
        "IndexOutOfBoundsException", "ArithmeticException", "UnsupportedOperationException", "NoSuchElementException",
        "RuntimeException");
    private static final Set<String> LIBRARY_CLASSES = Set.of("String", "StringBuilder", "ArrayList", "List", "Integer", "Long",
        "Math", "Iterator", "Iterable", "Comparable", "System", "Arrays");
    private static final Set<String> LIBRARY_CALLS = Set.of("length", "charAt", "isEmpty", "equals", "indexOf", "substring",
        "toCharArray", "append", "setCharAt", "setLength", "deleteCharAt", "reverse", "toString", "add", "get", "set", "remove",
        "size", "clear", "of", "compare", "max", "min", "abs", "bitCount", "floorDiv", "floorMod", "arraycopy", "copyOf",
        "copyOfRange", "fill", "clone");
    private static final Set<String> FORBIDDEN_WORDS = Set.of("package", "protected", "finally", "synchronized", "assert",
        "volatile", "native", "transient", "hashCode", "getMessage");
    private static final Set<String> STATIC_TYPES = Set.of("int", "long", "boolean", "char", "String", "int[]", "long[]", "char[]",
        "byte[]");

    public static void main(String[] args) throws IOException {
        String text = Files.readString(SOURCE, StandardCharsets.ISO_8859_1);
        String code = withoutRemarksAndTexts(text);
        oneFile();
        signs(text);
        words(code);
        names(code);
        throwsAndCatches(code);
        classes();
        Due.end();
    }

    private static void oneFile() throws IOException {
        try (var files = Files.walk(Path.of("src/main"))) {
            Due.same("the program is one file", SOURCE.toString(), files.filter(Files::isRegularFile).toList().stream()
                .map(Path::toString).reduce("", String::concat));
        }
    }

    private static void signs(String text) {
        Due.same("rule 4: signs 1 to 127", "true", "" + text.chars().allMatch(sign -> sign >= 1 && sign <= 127));
    }

    private static void words(String code) {
        for (String word : FORBIDDEN_WORDS) {
            Due.same("no " + word, "false", "" + Pattern.compile("\\b" + word + "\\b").matcher(code).find());
        }
        Due.same("rule 2: no lambda, no method reference", "false", "" + (code.contains("->") || code.contains("::")));
        Due.same("rule 5: no static initialiser block", "false", "" + Pattern.compile("static\\s*[{]").matcher(code).find());
        Due.same("rule 6: no try with resources", "false", "" + Pattern.compile("try\\s*[(]").matcher(code).find());
    }

    /** Every class and every called method is the program's own or stands in the list of rule 4. */
    private static void names(String code) {
        Set<String> classes = new TreeSet<>(all(code, "\\b([A-Z]\\w*[a-z]\\w*)\\b"));
        Set<String> calls = new TreeSet<>(all(code, "[.](\\w+)\\s*[(]"));
        classes.removeAll(LIBRARY_CLASSES);
        classes.removeAll(THROWN);
        calls.removeAll(LIBRARY_CALLS);
        for (Class<?> own : ownClasses()) {
            classes.remove(own.getSimpleName());
            for (Executable method : own.getDeclaredMethods()) {
                calls.remove(method.getName());
            }
        }
        Due.same("rule 4: other classes", "[]", classes.toString());
        Due.same("rule 4: other calls", "[]", calls.toString());
    }

    private static void throwsAndCatches(String code) {
        String anyThrown = "(" + String.join("|", THROWN) + ")";
        for (String thrown : all(code, "\\bthrow\\b([^;]*;)")) {
            Due.same("rule 6: throw" + thrown, "true", "" + thrown.matches(" new " + anyThrown + "[(](\"\")?[)];"));
        }
        for (String caught : all(code, "\\bcatch\\s*[(]([^)]*)[)]")) {
            Due.same("rule 6: catch " + caught, "true", "" + caught.matches("(final )?" + anyThrown + "( [|] " + anyThrown + ")* \\w+"));
        }
    }

    private static void classes() {
        List<Class<?>> own = ownClasses();
        Due.same("rule 11: some twelve classes", "true", "" + (own.size() <= 12));
        for (Class<?> one : own) {
            int type = one.getModifiers();
            boolean inside = one != FieldStore.class;
            Due.same("rule 1: " + one, "false", "" + (inside && (Modifier.isPublic(type) || Modifier.isProtected(type))));
            Due.same("rule 1: " + one, "true", "" + (!inside || Modifier.isStatic(type)));
            Due.same("rule 6: no exception class: " + one, "false", "" + Throwable.class.isAssignableFrom(one));
            List<Executable> methods = new ArrayList<>(Arrays.asList(one.getDeclaredMethods()));
            methods.addAll(Arrays.asList(one.getDeclaredConstructors()));
            for (Executable method : methods) {
                Due.same("rule 11: parameters of " + method, "true", "" + (method.getParameterCount() <= 7));
                Due.same("rule 6: none of " + method, "false", "" + method.getName().matches("equals|hashCode|toString"));
            }
            fields(one);
        }
    }

    private static void fields(Class<?> one) {
        int changing = 0;
        for (Field field : one.getDeclaredFields()) {
            if (Modifier.isStatic(field.getModifiers())) {
                boolean constant = Modifier.isFinal(field.getModifiers()) && STATIC_TYPES.contains(field.getType().getSimpleName());
                Due.same("rule 5: " + field, "true", "" + (constant || one.isEnum()));
            } else {
                changing++;
            }
        }
        Due.same("rule 11: some twenty fields of " + one, "true", "" + (changing <= 20));
    }

    private static List<Class<?>> ownClasses() {
        List<Class<?>> own = new ArrayList<>();
        own.add(FieldStore.class);
        own.addAll(Arrays.asList(FieldStore.class.getDeclaredClasses()));
        return own;
    }

    /** The code with no remarks, and with "" in place of each text. */
    private static String withoutRemarksAndTexts(String text) {
        Matcher parts = Pattern.compile("(?s)/[*].*?[*]/|//[^\n]*|'(?:\\\\.|[^'])'|(\"(?:\\\\.|[^\"\\\\])*\")").matcher(text);
        return parts.replaceAll(part -> part.group(1) == null ? " " : "\"\"");
    }

    private static List<String> all(String code, String pattern) {
        List<String> found = new ArrayList<>();
        for (Matcher matcher = Pattern.compile(pattern).matcher(code); matcher.find(); ) {
            found.add(matcher.group(1));
        }
        return found;
    }
}
