import java.lang.reflect.Constructor;
import java.lang.reflect.Field;
import java.lang.reflect.Method;
import java.lang.reflect.Modifier;
import java.util.Arrays;
import java.util.TreeSet;
import java.util.stream.Collectors;

/** The class shows the document's face and nothing else. */
public final class FaceTest {
    private static final String[] FACE = {
        "void limit(int, int)", "void band(int, int, int)", "void fees(int, int)", "void card(int, int, int)",
        "boolean copy(int)", "boolean car(int, int, int, int)", "boolean want(int, int)", "boolean leave(int)",
        "int show(int, int)", "void line(int, boolean)", "void power(int, boolean)", "int carry(int)",
        "boolean lose(int)", "int pass(int)", "int time()", "int current(int)", "int sum(int)", "long meter(int)",
        "int about(int, int)", "long open(int)", "int bills()", "int bill(int, int)", "long total(int)",
    };

    public static void main(String[] args) {
        Due due = new Due();
        TreeSet<String> shown = new TreeSet<>();
        for (Method m : OutletOffice.class.getDeclaredMethods()) {
            if (!Modifier.isPrivate(m.getModifiers())) {
                due.yes(m.getName() + " is public", Modifier.isPublic(m.getModifiers()));
                shown.add(m.getReturnType() + " " + m.getName() + Arrays.stream(m.getParameterTypes())
                        .map(Class::getName).collect(Collectors.joining(", ", "(", ")")));
            }
        }
        TreeSet<String> promised = new TreeSet<>(Arrays.asList(FACE));
        due.yes("the methods " + shown + " are " + promised, shown.equals(promised));
        for (Field f : OutletOffice.class.getDeclaredFields()) {
            due.yes(f.getName() + " is private", Modifier.isPrivate(f.getModifiers()));
        }
        Constructor<?>[] made = OutletOffice.class.getDeclaredConstructors();
        due.same("constructors", 1, () -> made.length);
        due.yes("it is public", Modifier.isPublic(made[0].getModifiers()));
        due.yes("the class is final", Modifier.isFinal(OutletOffice.class.getModifiers()));
        due.yes("the class is public", Modifier.isPublic(OutletOffice.class.getModifiers()));
        due.end();
    }
}
