import java.lang.reflect.Constructor;
import java.lang.reflect.Field;
import java.lang.reflect.Method;
import java.lang.reflect.Modifier;
import java.util.Arrays;
import java.util.TreeSet;
import java.util.stream.Collectors;

/** The class shows the document's face and nothing else. */
public final class FaceTest {
    private static final String INDEX = " IndexOutOfBoundsException";
    private static final String ARGUMENT = " IllegalArgumentException";
    private static final String[] FACE = {
        "void limit(int, int)" + INDEX + ARGUMENT,
        "void band(int, int, int)" + INDEX + ARGUMENT,
        "void fees(int, int)" + ARGUMENT,
        "void card(int, int, int)" + INDEX + ARGUMENT,
        "boolean copy(int)" + INDEX,
        "boolean car(int, int, int, int)" + INDEX + ARGUMENT,
        "boolean want(int, int)" + INDEX + ARGUMENT,
        "boolean leave(int)" + INDEX,
        "int show(int, int)" + INDEX,
        "void line(int, boolean)" + INDEX,
        "void power(int, boolean)" + INDEX,
        "int carry(int)" + INDEX,
        "boolean lose(int)" + INDEX,
        "int pass(int)" + ARGUMENT,
        "int time()",
        "int current(int)" + INDEX,
        "int sum(int)" + INDEX,
        "long meter(int)" + INDEX,
        "int about(int, int)" + INDEX + ARGUMENT,
        "long open(int)" + INDEX,
        "int bills()",
        "int bill(int, int)" + INDEX + ARGUMENT,
        "long total(int)" + INDEX,
    };
    private static final Due DUE = new Due();

    public static void main(String[] args) {
        methods();
        fields();
        constructor();
        classes();
        DUE.end();
    }

    private static void methods() {
        TreeSet<String> shown = new TreeSet<>();
        TreeSet<String> publicNames = new TreeSet<>();
        TreeSet<String> hiddenNames = new TreeSet<>();
        for (Method m : OutletOffice.class.getDeclaredMethods()) {
            if (Modifier.isPrivate(m.getModifiers())) {
                hiddenNames.add(m.getName());
            } else {
                DUE.yes(m.getName() + " is public", Modifier.isPublic(m.getModifiers()));
                DUE.no(m.getName() + " is static", Modifier.isStatic(m.getModifiers()));
                publicNames.add(m.getName());
                shown.add(written(m));
            }
        }
        TreeSet<String> promised = new TreeSet<>(Arrays.asList(FACE));
        DUE.yes("the methods " + shown + " are " + promised, shown.equals(promised));
        hiddenNames.retainAll(publicNames);
        DUE.yes("private methods with a public name: " + hiddenNames, hiddenNames.isEmpty());
    }

    private static String written(Method m) {
        return m.getReturnType() + " " + m.getName()
                + Arrays.stream(m.getParameterTypes()).map(Class::getName).collect(Collectors.joining(", ", "(", ")"))
                + Arrays.stream(m.getExceptionTypes()).map(e -> " " + e.getSimpleName()).collect(Collectors.joining());
    }

    private static void fields() {
        for (Field f : OutletOffice.class.getDeclaredFields()) {
            DUE.yes(f.getName() + " is private", Modifier.isPrivate(f.getModifiers()));
        }
    }

    private static void constructor() {
        Constructor<?>[] made = OutletOffice.class.getDeclaredConstructors();
        DUE.same("constructors", 1, () -> made.length);
        DUE.yes("it is public", Modifier.isPublic(made[0].getModifiers()));
        DUE.same("its parameters", 0, () -> made[0].getParameterCount());
        DUE.same("its exceptions", 0, () -> made[0].getExceptionTypes().length);
    }

    private static void classes() {
        DUE.yes("the class is final", Modifier.isFinal(OutletOffice.class.getModifiers()));
        DUE.yes("the class is public", Modifier.isPublic(OutletOffice.class.getModifiers()));
        DUE.yes("the class has no package", OutletOffice.class.getPackageName().isEmpty());
        for (Class<?> inside : OutletOffice.class.getDeclaredClasses()) {
            int modifiers = inside.getModifiers();
            DUE.yes(inside.getName() + " is static", Modifier.isStatic(modifiers));
            DUE.no(inside.getName() + " is seen", Modifier.isPublic(modifiers) || Modifier.isProtected(modifiers));
        }
    }
}
