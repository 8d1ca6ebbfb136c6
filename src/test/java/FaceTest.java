import java.io.IOException;
import java.lang.reflect.Field;
import java.lang.reflect.Method;
import java.lang.reflect.Modifier;
import java.nio.file.Files;
import java.nio.file.Path;
import java.util.List;
import java.util.Set;
import java.util.TreeSet;
import java.util.regex.Pattern;

/** The public face, and those rules of the language that a look at the class or its text can tell. */
public final class FaceTest {
    private static final Set<String> FACE = Set.of("name2", "row2", "factor3", "cost2", "alike2", "order0", "rule2",
        "start2", "offer0", "run1", "restart0", "best1", "bound0", "node2", "boundOf3", "price1", "check0", "count1");
    private static final Set<String> CONSTANTS = Set.of("BAD", "NONE", "FULL");
    private static final List<String> FORBIDDEN = List.of("\\bthrow\\b", "\\btry\\b", "\\bcatch\\b", "\\bassert\\b",
        "\\bsynchronized\\b", "\\bimport\\b", "\\bpackage\\b", "->", "::", "Exact\\s*\\(", "\\bvar\\b", "static\\s*\\{");

    private FaceTest() {
    }

    public static void main(String[] args) throws IOException {
        theClass();
        methods();
        fields();
        classesInside();
        text();
        Expect.end();
    }

    private static void theClass() {
        int modifiers = BranchTrees.class.getModifiers();
        Expect.holds("public and final", Modifier.isPublic(modifiers) && Modifier.isFinal(modifiers));
        Expect.is("constructors", BranchTrees.class.getDeclaredConstructors().length, 1);
        Expect.is("public constructors", BranchTrees.class.getConstructors().length, 1);
        Expect.is("its parameters", BranchTrees.class.getConstructors()[0].getParameterCount(), 0);
        Expect.is("BAD", BranchTrees.BAD, -1);
        Expect.is("NONE", BranchTrees.NONE, -2);
        Expect.is("FULL", BranchTrees.FULL, -3);
    }

    private static void methods() {
        Set<String> found = new TreeSet<>();
        Set<String> publicNames = new TreeSet<>();
        for (Method method : BranchTrees.class.getDeclaredMethods()) {
            if (Modifier.isPublic(method.getModifiers())) {
                found.add(method.getName() + method.getParameterCount());
                publicNames.add(method.getName());
                Expect.holds(method + " answers an int", method.getReturnType() == int.class);
                Expect.holds(method + " is of the object", !Modifier.isStatic(method.getModifiers()));
            }
        }
        Expect.holds("the methods are " + found, found.equals(FACE));
        for (Method method : BranchTrees.class.getDeclaredMethods()) {
            int modifiers = method.getModifiers();
            if (!Modifier.isPublic(modifiers)) {
                Expect.holds(method + " is private", Modifier.isPrivate(modifiers));
                Expect.holds(method + " has a name of its own", !publicNames.contains(method.getName()));
            }
        }
    }

    private static void fields() {
        for (Field field : BranchTrees.class.getDeclaredFields()) {
            int modifiers = field.getModifiers();
            boolean constant = CONSTANTS.contains(field.getName());
            Expect.holds(field + " is seen or not", constant ? Modifier.isPublic(modifiers) : Modifier.isPrivate(modifiers));
            if (constant) {
                Expect.holds(field + " is a constant", Modifier.isStatic(modifiers) && field.getType() == int.class);
            }
            if (Modifier.isStatic(modifiers)) {
                Expect.holds(field + " is final", Modifier.isFinal(modifiers));
            }
        }
    }

    private static void classesInside() {
        Class<?>[] inside = BranchTrees.class.getDeclaredClasses();
        Expect.holds("at most twelve classes", inside.length < 12);
        for (Class<?> one : inside) {
            int modifiers = one.getModifiers();
            Expect.holds(one + " is static", Modifier.isStatic(modifiers));
            Expect.holds(one + " is not seen outside", !Modifier.isPublic(modifiers) && !Modifier.isProtected(modifiers));
            Expect.holds(one + " has at most twenty fields", one.getDeclaredFields().length <= 20);
            for (Method method : one.getDeclaredMethods()) {
                Expect.holds(method + " has at most seven parameters", method.getParameterCount() <= 7);
            }
        }
    }

    private static void text() throws IOException {
        String source = Files.readString(Path.of("src/main/java/BranchTrees.java"));
        String code = source.replaceAll("(?s)/\\*.*?\\*/", " ").replaceAll("//[^\n]*", " ");
        for (String word : FORBIDDEN) {
            Expect.holds("the code has no " + word, !Pattern.compile(word).matcher(code).find());
        }
    }
}
