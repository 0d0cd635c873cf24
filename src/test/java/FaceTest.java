import java.lang.reflect.Constructor;
import java.lang.reflect.Field;
import java.lang.reflect.Method;
import java.lang.reflect.Modifier;
import java.nio.file.Files;
import java.nio.file.Path;
import java.util.Arrays;
import java.util.HashSet;
import java.util.List;
import java.util.Set;
import java.util.TreeSet;
import java.util.stream.Collectors;

/** The class has the face that ../shared/DOC.md writes, and, by rule 1 of LANGUAGE.md, no other open member. */
public final class FaceTest {
    private static final Check check = new Check();

    public static void main(String[] args) throws Exception {
        check.due("the face", faceOfDocument(), faceOfClass());
        check.due("public and final", Modifier.PUBLIC | Modifier.FINAL, Maybehall.class.getModifiers());
        Set<String> open = new HashSet<>();
        for (Method method : Maybehall.class.getDeclaredMethods()) {
            if (Modifier.isPublic(method.getModifiers())) {
                check.due("another one named " + method.getName(), true, open.add(method.getName()));
            }
        }
        for (Method method : Maybehall.class.getDeclaredMethods()) {
            if (!Modifier.isPublic(method.getModifiers())) {
                check.due(method + " is private", true, Modifier.isPrivate(method.getModifiers()));
                check.due(method + " bears a public name", false, open.contains(method.getName()));
            }
        }
        for (Field field : Maybehall.class.getDeclaredFields()) {
            check.due(field + " is private", true, Modifier.isPrivate(field.getModifiers()));
            check.due(field + " is static and not final", false,
                Modifier.isStatic(field.getModifiers()) && !Modifier.isFinal(field.getModifiers()));
        }
        check.end();
    }

    private static Set<String> faceOfDocument() throws Exception {
        List<String> lines = Files.readAllLines(Path.of("../shared/DOC.md"));
        return lines.stream().filter(line -> line.startsWith("    public ")).map(String::strip)
            .collect(Collectors.toCollection(TreeSet::new));
    }

    private static Set<String> faceOfClass() {
        Set<String> face = new TreeSet<>();
        for (Constructor<?> made : Maybehall.class.getDeclaredConstructors()) {
            face.add(Modifier.toString(made.getModifiers()) + " " + made.getName() + "()" + thrown(made.getExceptionTypes()));
        }
        for (Method method : Maybehall.class.getDeclaredMethods()) {
            if (Modifier.isPublic(method.getModifiers())) {
                String told = Arrays.stream(method.getParameters())
                    .map(each -> each.getType().getSimpleName() + " " + each.getName()).collect(Collectors.joining(", "));
                face.add("public " + method.getReturnType().getSimpleName() + " " + method.getName() + "(" + told + ")"
                    + thrown(method.getExceptionTypes()));
            }
        }
        return face;
    }

    private static String thrown(Class<?>[] types) {
        String names = Arrays.stream(types).map(Class::getSimpleName).collect(Collectors.joining(", "));
        return types.length == 0 ? ";" : " throws " + names + ";";
    }
}
