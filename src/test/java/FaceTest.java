import java.lang.reflect.Constructor;
import java.lang.reflect.Field;
import java.lang.reflect.Method;
import java.lang.reflect.Modifier;
import java.nio.file.Files;
import java.nio.file.Path;
import java.util.ArrayList;
import java.util.Arrays;
import java.util.List;
import java.util.Set;
import java.util.TreeSet;
import java.util.stream.Collectors;

/** The class has just the face that the document shows. */
public final class FaceTest {
    public static void main(String[] args) throws Exception {
        String face = Files.readString(Path.of("../shared/DOC.md")).split("```java")[1].split("```")[0];
        Set<String> due = new TreeSet<>();
        for (String row : face.split("\n")) {
            if (row.startsWith("    public ")) {
                due.add(row.strip().replaceAll("\\b(int|long|char) \\w+(?=[,)])", "$1"));
            }
        }
        Set<String> found = new TreeSet<>();
        Set<String> publicNames = new TreeSet<>();
        List<String> privateNames = new ArrayList<>();
        for (Method method : EchoCensus.class.getDeclaredMethods()) {
            if (Modifier.isPrivate(method.getModifiers())) {
                privateNames.add(method.getName());
            } else {
                publicNames.add(method.getName());
                found.add(Modifier.toString(method.getModifiers()) + " "
                        + method.getReturnType().getName() + " " + method.getName()
                        + tail(method.getParameterTypes(), method.getExceptionTypes()));
            }
        }
        for (Constructor<?> constructor : EchoCensus.class.getDeclaredConstructors()) {
            found.add(Modifier.toString(constructor.getModifiers()) + " EchoCensus"
                    + tail(constructor.getParameterTypes(), constructor.getExceptionTypes()));
        }
        Check.equal("the face", due, () -> found);
        Check.equal("the number of methods and constructors", 62, due::size);
        Check.equal("the class's modifiers", "public final",
                () -> Modifier.toString(EchoCensus.class.getModifiers()));
        privateNames.retainAll(publicNames);
        Check.equal("private methods with a public name", "[]", () -> privateNames);
        for (Field field : EchoCensus.class.getDeclaredFields()) {
            Check.equal("private field " + field.getName(), true,
                    () -> Modifier.isPrivate(field.getModifiers()));
        }
        Check.finish();
    }

    private static String tail(Class<?>[] parameters, Class<?>[] exceptions) {
        String text = "(" + names(parameters) + ")";
        return (exceptions.length == 0 ? text : text + " throws " + names(exceptions)) + ";";
    }

    private static String names(Class<?>[] types) {
        return Arrays.stream(types).map(Class::getSimpleName).collect(Collectors.joining(", "));
    }
}
