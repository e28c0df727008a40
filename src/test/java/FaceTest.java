import java.io.IOException;
import java.lang.reflect.Constructor;
import java.lang.reflect.Field;
import java.lang.reflect.Method;
import java.lang.reflect.Modifier;
import java.nio.file.Files;
import java.nio.file.Path;
import java.util.ArrayList;
import java.util.List;
import java.util.TreeSet;

/** The document's face and LANGUAGE.md's rule 1: the methods that the document lists, no more. */
final class FaceTest {
    public static void main(String[] args) throws IOException {
        Path shared = Path.of(args.length > 0 ? args[0] : "../shared");
        TreeSet<String> due = headsOfTheDocument(shared.resolve("DOC.md"));
        Check.holds("the document has a face", due.size() == 54);
        Check.same("the face", String.join("\n", due), String.join("\n", headsOfTheClass()));
        theClassItself();
        theClassesInside();
        Check.end();
    }

    /** Each head as "int setValve(int,int) throws IndexOutOfBoundsException, ...". */
    private static TreeSet<String> headsOfTheDocument(Path document) throws IOException {
        TreeSet<String> heads = new TreeSet<>();
        for (String line : Files.readAllLines(document)) {
            if (!line.startsWith("    public ") || !line.endsWith(";")) {
                continue;
            }
            String head = line.substring("    public ".length(), line.length() - 1);
            int from = head.indexOf('(');
            int to = head.indexOf(')');
            List<String> types = new ArrayList<>();
            for (String parameter : head.substring(from + 1, to).split(", ")) {
                types.add(parameter.split(" ")[0]);
            }
            heads.add(head.substring(0, from) + "(" + String.join(",", types) + ")"
                    + head.substring(to + 1));
        }
        return heads;
    }

    private static TreeSet<String> headsOfTheClass() {
        TreeSet<String> heads = new TreeSet<>();
        for (Constructor<?> constructor : CanalLocks.class.getConstructors()) {
            heads.add("CanalLocks" + tail(constructor.getParameterTypes(), constructor.getExceptionTypes()));
        }
        for (Method method : CanalLocks.class.getDeclaredMethods()) {
            if (Modifier.isPublic(method.getModifiers())) {
                heads.add(method.getReturnType().getName() + " " + method.getName()
                        + tail(method.getParameterTypes(), method.getExceptionTypes()));
            }
        }
        return heads;
    }

    private static String tail(Class<?>[] parameters, Class<?>[] exceptions) {
        List<String> types = new ArrayList<>();
        for (Class<?> parameter : parameters) {
            types.add(parameter.getSimpleName());
        }
        List<String> thrown = new ArrayList<>();
        for (Class<?> exception : exceptions) {
            thrown.add(exception.getSimpleName());
        }
        return "(" + String.join(",", types) + ")"
                + (thrown.isEmpty() ? "" : " throws " + String.join(", ", thrown));
    }

    private static void theClassItself() {
        int modifiers = CanalLocks.class.getModifiers();
        Check.holds("public and final", Modifier.isPublic(modifiers) && Modifier.isFinal(modifiers));
        Check.holds("no package", CanalLocks.class.getPackageName().isEmpty());
        for (Field field : CanalLocks.class.getDeclaredFields()) {
            Check.holds("private field " + field.getName(), Modifier.isPrivate(field.getModifiers()));
            Check.holds("final static field " + field.getName(),
                    !Modifier.isStatic(field.getModifiers()) || Modifier.isFinal(field.getModifiers()));
        }
        for (Method method : CanalLocks.class.getDeclaredMethods()) {
            Check.holds("public or private " + method.getName(),
                    Modifier.isPublic(method.getModifiers()) || Modifier.isPrivate(method.getModifiers()));
        }
    }

    private static void theClassesInside() {
        TreeSet<String> names = new TreeSet<>();
        for (Method method : CanalLocks.class.getDeclaredMethods()) {
            if (Modifier.isPublic(method.getModifiers())) {
                names.add(method.getName());
            }
        }
        for (Method method : CanalLocks.class.getDeclaredMethods()) {
            Check.holds("a name of its own: " + method.getName(),
                    Modifier.isPublic(method.getModifiers()) || !names.contains(method.getName()));
        }
        Class<?>[] inside = CanalLocks.class.getDeclaredClasses();
        Check.holds("some twelve classes at most", inside.length < 12);
        for (Class<?> type : inside) {
            Check.holds("private or package-visible " + type.getName(),
                    !Modifier.isPublic(type.getModifiers()) && !Modifier.isProtected(type.getModifiers()));
            for (Method method : type.getDeclaredMethods()) {
                Check.holds("a name of its own: " + method, !names.contains(method.getName()));
            }
            int fields = 0;
            for (Field field : type.getDeclaredFields()) {
                fields += Modifier.isStatic(field.getModifiers()) ? 0 : 1;
            }
            Check.holds("some twenty fields at most in " + type.getName(), fields <= 20);
        }
    }
}
