import java.lang.reflect.Constructor;
import java.lang.reflect.Executable;
import java.lang.reflect.Field;
import java.lang.reflect.Method;
import java.lang.reflect.Modifier;
import java.nio.file.Files;
import java.nio.file.Path;
import java.util.ArrayList;
import java.util.Arrays;
import java.util.HashSet;
import java.util.List;
import java.util.Set;
import java.util.TreeSet;

/** The class has just the face that the document's "The public face" writes out. */
public final class FaceTest {
    private static final Path DOCUMENT = Path.of("../shared/DOC.md");

    public static void main(String[] args) throws Exception {
        List<String> faults = new ArrayList<>();
        Set<String> asked = askedFace();
        Set<String> there = face();
        for (String line : asked) {
            if (!there.contains(line)) {
                faults.add("missing: " + line);
            }
        }
        for (String line : there) {
            if (!asked.contains(line)) {
                faults.add("not asked for: " + line);
            }
        }
        if (asked.size() != 52) {
            faults.add("the document's face was not read");
        }
        if (Hashladder.class.getModifiers() != (Modifier.PUBLIC | Modifier.FINAL)) {
            faults.add("the class is not public and final");
        }
        addHiddenFaults(faults);
        faults.forEach(System.out::println);
        System.out.println(asked.size() + " members asked for, " + faults.size() + " faults");
        System.exit(faults.isEmpty() ? 0 : 1);
    }

    private static Set<String> askedFace() throws Exception {
        Set<String> face = new TreeSet<>();
        for (String line : Files.readAllLines(DOCUMENT)) {
            if (line.startsWith("    public ")) {
                face.add(line.strip().replace(";", "").replaceAll("(int|boolean) \\w+([,)])", "$1$2"));
            }
        }
        return face;
    }

    private static Set<String> face() {
        Set<String> face = new TreeSet<>();
        for (Constructor<?> made : Hashladder.class.getDeclaredConstructors()) {
            face.add(Modifier.toString(made.getModifiers()) + " " + rest("Hashladder", made));
        }
        for (Method method : Hashladder.class.getDeclaredMethods()) {
            if (!Modifier.isPrivate(method.getModifiers())) {
                face.add(Modifier.toString(method.getModifiers()) + " "
                        + method.getReturnType().getSimpleName() + " " + rest(method.getName(), method));
            }
        }
        for (Field field : Hashladder.class.getDeclaredFields()) {
            if (!Modifier.isPrivate(field.getModifiers())) {
                face.add(field.toString());
            }
        }
        return face;
    }

    private static String rest(String name, Executable made) {
        String thrown = names(made.getExceptionTypes());
        return name + "(" + names(made.getParameterTypes()) + ")"
                + (thrown.isEmpty() ? "" : " throws " + thrown);
    }

    private static String names(Class<?>[] types) {
        return String.join(", ", Arrays.stream(types).map(Class::getSimpleName).toList());
    }

    private static void addHiddenFaults(List<String> faults) {
        Set<String> open = new HashSet<>();
        for (Method method : Hashladder.class.getDeclaredMethods()) {
            if (Modifier.isPublic(method.getModifiers())) {
                open.add(method.getName());
            }
        }
        for (Method method : Hashladder.class.getDeclaredMethods()) {
            if (Modifier.isPrivate(method.getModifiers()) && open.contains(method.getName())) {
                faults.add("a private method bears a public name: " + method.getName());
            }
        }
        for (Class<?> inside : Hashladder.class.getDeclaredClasses()) {
            int modifiers = inside.getModifiers();
            if (!Modifier.isStatic(modifiers) || Modifier.isPublic(modifiers) || Modifier.isProtected(modifiers)) {
                faults.add("neither private nor package-visible and static: " + inside.getName());
            }
        }
    }
}
