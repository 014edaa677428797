import java.lang.reflect.Constructor;
import java.lang.reflect.Field;
import java.lang.reflect.Method;
import java.lang.reflect.Modifier;
import java.util.ArrayList;
import java.util.Arrays;
import java.util.Collections;
import java.util.List;
import java.util.TreeSet;

/** The public face: just the constants, the constructor and the methods of the document. */
public final class FaceTest {
    private static final String[] METHODS = {
        "int add(int,int) IllegalArgumentException IllegalStateException",
        "int give(int,int) IndexOutOfBoundsException IllegalArgumentException",
        "int set(int,int,int) IndexOutOfBoundsException IllegalArgumentException",
        "int jobs()",
        "int crew(int) IndexOutOfBoundsException",
        "int site(int) IndexOutOfBoundsException",
        "int value(int,int) IndexOutOfBoundsException IllegalArgumentException",
        "int version(int,int) IndexOutOfBoundsException IllegalArgumentException",
        "int setRoom(int,int) IndexOutOfBoundsException IllegalArgumentException",
        "int fetch(int) IndexOutOfBoundsException",
        "int held(int) IndexOutOfBoundsException",
        "boolean holds(int,int) IndexOutOfBoundsException",
        "int heldValue(int,int,int) IndexOutOfBoundsException IllegalArgumentException IllegalStateException",
        "int change(int,int,int,int) IndexOutOfBoundsException IllegalArgumentException IllegalStateException",
        "int make(int,int) IndexOutOfBoundsException IllegalArgumentException",
        "int numberOf(int,int) IndexOutOfBoundsException IllegalArgumentException",
        "int send(int,int) IndexOutOfBoundsException IllegalArgumentException",
        "int waiting(int) IndexOutOfBoundsException",
        "int pile(int) IndexOutOfBoundsException",
        "int reason(int,int) IndexOutOfBoundsException",
        "int refusedValue(int,int) IndexOutOfBoundsException",
        "int done()",
    };
    private static final String[] CONSTANTS = {
        "NONE=-1", "OPEN=0", "STARTED=1", "DONE=2", "STATE=0", "NOTE=1", "LOST=0", "CLASH=1", "STEP=2", "FULL=3",
    };

    public static void main(String[] args) throws IllegalAccessException {
        int type = FieldStore.class.getModifiers();
        Due.same("the class is public and final", "true", "" + (Modifier.isPublic(type) && Modifier.isFinal(type)));
        Due.same("constructors", "[public FieldStore()]", Arrays.toString(constructors()));
        Due.same("methods", sorted(Arrays.asList(METHODS)), sorted(methods()));
        Due.same("constants", sorted(Arrays.asList(CONSTANTS)), sorted(constants()));
        Due.same("private methods with a public name", "[]", doubledNames().toString());
        Due.end();
    }

    private static Constructor<?>[] constructors() {
        return FieldStore.class.getDeclaredConstructors();
    }

    private static List<String> methods() {
        List<String> found = new ArrayList<>();
        for (Method method : FieldStore.class.getDeclaredMethods()) {
            if (!Modifier.isPrivate(method.getModifiers())) {
                found.add(line(method));
            }
        }
        return found;
    }

    private static String line(Method method) {
        StringBuilder line = new StringBuilder(method.getReturnType() + " " + method.getName() + "(");
        for (Class<?> parameter : method.getParameterTypes()) {
            line.append(line.charAt(line.length() - 1) == '(' ? "" : ",").append(parameter);
        }
        line.append(")");
        for (Class<?> thrown : method.getExceptionTypes()) {
            line.append(" ").append(thrown.getSimpleName());
        }
        return line.toString();
    }

    private static List<String> constants() throws IllegalAccessException {
        List<String> found = new ArrayList<>();
        for (Field field : FieldStore.class.getDeclaredFields()) {
            int type = field.getModifiers();
            if (Modifier.isPublic(type) && Modifier.isStatic(type) && Modifier.isFinal(type)) {
                found.add(field.getName() + "=" + field.get(null));
            } else if (!Modifier.isPrivate(type)) {
                found.add("neither a constant nor private: " + field.getName());
            }
        }
        return found;
    }

    private static TreeSet<String> doubledNames() {
        TreeSet<String> open = new TreeSet<>();
        TreeSet<String> hidden = new TreeSet<>();
        for (Method method : FieldStore.class.getDeclaredMethods()) {
            (Modifier.isPrivate(method.getModifiers()) ? hidden : open).add(method.getName());
        }
        hidden.retainAll(open);
        return hidden;
    }

    private static String sorted(List<String> lines) {
        List<String> all = new ArrayList<>(lines);
        Collections.sort(all);
        return String.join("\n", all);
    }
}
