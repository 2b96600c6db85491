import java.io.IOException;
import java.lang.reflect.Constructor;
import java.lang.reflect.Field;
import java.lang.reflect.Method;
import java.lang.reflect.Modifier;
import java.nio.file.Files;
import java.nio.file.Path;
import java.util.Arrays;
import java.util.List;
import java.util.TreeSet;
import java.util.stream.Collectors;

/** The face is the document's and no more, and the source keeps to what of LANGUAGE.md can be read off its lines. */
public final class FaceTest {
    private static final String NO_SUCH = Checks.NO_SUCH;

    private static final List<String> METHODS = List.of(
        "int yard(int)", "int path(int,int,int,int) " + NO_SUCH, "int degree(int,int) " + NO_SUCH,
        "boolean whole(int) " + NO_SUCH, "long trees(int) " + NO_SUCH,
        "long part(int,int) " + NO_SUCH + " " + Checks.BAD_STATE, "int heap(int) " + NO_SUCH,
        "int set(int,int,int) " + NO_SUCH + " " + Checks.BAD_ARGUMENT, "long grains(int,int) " + NO_SUCH,
        "boolean topple(int,int) " + NO_SUCH, "long settle(int) " + NO_SUCH, "long drop(int,int) " + NO_SUCH,
        "long toppled(int,int) " + NO_SUCH, "boolean is(int,int) " + NO_SUCH, "int burns(int,int) " + NO_SUCH,
        "long add(int,int) " + NO_SUCH + " " + Checks.BAD_ARGUMENT, "void become(int,int) " + NO_SUCH,
        "boolean alike(int,int) " + NO_SUCH + " " + Checks.BAD_ARGUMENT, "long order(int) " + NO_SUCH,
        "int tree(int,int,int) " + NO_SUCH + " " + Checks.BAD_STATE, "boolean grow(int,long) " + NO_SUCH,
        "int count(int) " + NO_SUCH);

    private static final List<String> RULED_OUT = List.of("->", "::", "catch", "finally", "synchronized", "assert ",
        "Exact(", "equals(", "hashCode", "toString", "while (true)", "System.out", "import java.io", "Random", "record ");

    private final Checks checks = new Checks();

    public static void main(String[] args) throws IOException {
        FaceTest test = new FaceTest();
        test.methods();
        test.fieldsAndConstructors();
        test.insideClasses();
        test.source();
        test.checks.end("FaceTest");
    }

    private static String told(Method m) {
        String parameters = Arrays.stream(m.getParameterTypes()).map(Class::getSimpleName).collect(Collectors.joining(","));
        String thrown = Arrays.stream(m.getExceptionTypes()).map(e -> " " + e.getSimpleName()).collect(Collectors.joining());
        return m.getReturnType().getSimpleName() + " " + m.getName() + "(" + parameters + ")" + thrown;
    }

    private void methods() {
        checks.chapter("methods");
        TreeSet<String> found = new TreeSet<>();
        TreeSet<String> names = new TreeSet<>();
        for (Method m : GrainYard.class.getDeclaredMethods()) {
            if (!Modifier.isPrivate(m.getModifiers())) {
                found.add(told(m));
                names.add(m.getName());
                checks.due(m + " is public and of an object", Modifier.PUBLIC, () -> m.getModifiers());
            }
        }
        checks.due("the face", new TreeSet<>(METHODS), () -> found);
        for (Method m : GrainYard.class.getDeclaredMethods()) {
            checks.due(m + " is private with a public one's name", false,
                () -> Modifier.isPrivate(m.getModifiers()) && names.contains(m.getName()));
        }
    }

    private void fieldsAndConstructors() {
        checks.chapter("fields");
        for (Field f : GrainYard.class.getDeclaredFields()) {
            boolean open = f.getName().equals("NONE");
            checks.due(f + " is private", !open, () -> Modifier.isPrivate(f.getModifiers()));
            checks.due(f + " is final, if static", true,
                () -> !Modifier.isStatic(f.getModifiers()) || Modifier.isFinal(f.getModifiers()));
        }
        Constructor<?>[] all = GrainYard.class.getDeclaredConstructors();
        checks.due("constructors", 1, () -> all.length);
        checks.due("public, without parameters", true,
            () -> Modifier.isPublic(all[0].getModifiers()) && all[0].getParameterCount() == 0);
        checks.due("final", true, () -> Modifier.isFinal(GrainYard.class.getModifiers()));
    }

    private void insideClasses() {
        checks.chapter("classes inside");
        for (Class<?> c : GrainYard.class.getDeclaredClasses()) {
            checks.due(c + " is static", true, () -> Modifier.isStatic(c.getModifiers()));
            checks.due(c + " is neither public nor protected", false,
                () -> Modifier.isPublic(c.getModifiers()) || Modifier.isProtected(c.getModifiers()));
            checks.due(c + " has few fields", true, () -> c.getDeclaredFields().length <= 20);
            for (Field f : c.getDeclaredFields()) {
                checks.due(f + " is final, if static", true,
                    () -> !Modifier.isStatic(f.getModifiers()) || Modifier.isFinal(f.getModifiers()));
            }
        }
        checks.due("at most 12 classes", true, () -> GrainYard.class.getDeclaredClasses().length < 12);
    }

    private void source() throws IOException {
        checks.chapter("source");
        String text = Files.readString(Path.of("src/main/java/GrainYard.java"));
        for (String word : RULED_OUT) {
            checks.due("has " + word, false, () -> text.contains(word));
        }
        checks.due("signs are 10 and 32 to 126", true, () -> text.chars().allMatch(c -> c == 10 || c >= 32 && c < 127));
    }
}
