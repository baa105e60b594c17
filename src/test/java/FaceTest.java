import java.lang.reflect.Constructor;
import java.lang.reflect.Field;
import java.lang.reflect.Method;
import java.lang.reflect.Modifier;
import java.util.Arrays;
import java.util.List;
import java.util.Set;
import java.util.TreeSet;
import java.util.stream.Collectors;

/** The class shows the document's face, and nothing else of it can be seen. */
public final class FaceTest {
    private static final String ISE = "IllegalStateException";
    private static final String IAE = "IllegalArgumentException";
    private static final String IOOBE = "IndexOutOfBoundsException";
    private static final String NSEE = "NoSuchElementException";
    private static final Set<String> FACE = new TreeSet<>(List.of(
            "void discriminant(int) " + IAE + " " + ISE,
            "int begin(int) " + ISE + " " + IAE,
            "int work(int) " + ISE + " " + IAE,
            "int prove(int) " + ISE + " " + IAE,
            "int publish() " + ISE,
            "boolean drop() ",
            "int rounds() ",
            "int told(int,int) " + ISE + " " + IOOBE,
            "int form(int,int,int) " + ISE + " " + IOOBE,
            "boolean verify(int) " + ISE + " " + IOOBE,
            "void put(int,int,int) " + ISE + " " + IOOBE + " " + IAE,
            "long buffer(int,int) " + ISE + " " + IOOBE + " " + NSEE,
            "void reduce(int,int) " + ISE + " " + IOOBE + " " + NSEE,
            "void multiply(int,int,int) " + ISE + " " + IOOBE + " " + NSEE,
            "void raise(int,int,int) " + ISE + " " + IOOBE + " " + IAE + " " + NSEE,
            "int test(int) " + ISE + " " + IOOBE + " " + NSEE,
            "int order(int) " + ISE + " " + IAE,
            "int classes() " + ISE + " " + IAE));

    public static void main(String[] args) throws ReflectiveOperationException {
        Check check = new Check();
        Class<?> type = SquaringClock.class;
        check.due("public and final", type.getModifiers(), Modifier.PUBLIC | Modifier.FINAL);
        check.due("constructors", Arrays.stream(type.getDeclaredConstructors())
                .map(Constructor::toString).collect(Collectors.toList()), List.of("public SquaringClock()"));
        check.due("methods", methods(type), FACE);
        check.due("NONE", type.getField("NONE").getInt(null), -1);
        fields(check, type);
        privateNames(check, type);
        for (Class<?> inside : type.getDeclaredClasses()) {
            int modifiers = inside.getModifiers();
            check.due(inside + " is static, and not to be seen",
                    Modifier.isStatic(modifiers) && !Modifier.isPublic(modifiers) && !Modifier.isProtected(modifiers), true);
        }
        check.end("FaceTest");
    }

    private static Set<String> methods(Class<?> type) {
        Set<String> seen = new TreeSet<>();
        for (Method method : type.getDeclaredMethods()) {
            if (!Modifier.isPrivate(method.getModifiers())) {
                seen.add(told(method));
            }
        }
        return seen;
    }

    private static String told(Method method) {
        String parameters = Arrays.stream(method.getParameterTypes())
                .map(Class::getSimpleName).collect(Collectors.joining(","));
        String thrown = Arrays.stream(method.getExceptionTypes())
                .map(Class::getSimpleName).collect(Collectors.joining(" "));
        return method.getReturnType().getSimpleName() + " " + method.getName() + "(" + parameters + ") " + thrown;
    }

    private static void fields(Check check, Class<?> type) {
        for (Field field : type.getDeclaredFields()) {
            int modifiers = field.getModifiers();
            check.due(field + " can be seen", !Modifier.isPrivate(modifiers), field.getName().equals("NONE"));
            check.due(field + " is no static state", Modifier.isStatic(modifiers) && !Modifier.isFinal(modifiers), false);
        }
    }

    private static void privateNames(Check check, Class<?> type) {
        Set<String> names = FACE.stream().map(line -> line.replaceAll(".* (\\w+)\\(.*", "$1"))
                .collect(Collectors.toCollection(TreeSet::new));
        for (Method method : type.getDeclaredMethods()) {
            if (Modifier.isPrivate(method.getModifiers())) {
                check.due(method + " bears a public one's name", names.contains(method.getName()), false);
            }
        }
    }
}
