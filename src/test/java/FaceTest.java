import java.lang.reflect.Constructor;
import java.lang.reflect.Field;
import java.lang.reflect.Method;
import java.lang.reflect.Modifier;
import java.util.Arrays;
import java.util.List;
import java.util.TreeSet;

/** The public face is the document's, and nothing beside it can be seen from outside. */
public final class FaceTest {
    private static final List<String> FACE = List.of(
        "int write(int, long)", "int wipe()", "int fault()", "int field()", "int thrower(int, int)", "int on()",
        "int rank(int)", "int odds(int, int)", "int toss(boolean)", "int spare()", "int undo()",
        "int judge(int, int)", "int clears(int, boolean)", "long mean(int, int, boolean)", "int wise(int, int)",
        "long first(int, int, boolean)", "int alone(int, int, boolean)", "int sheets(int, int, int)",
        "long seed(long)", "int fair()", "int keep(int)", "int again(int)", "int count(int)");
    private static final List<String> CONSTANTS = List.of("UNKNOWN", "OUTSIDE", "STATE", "FULL", "NONE");
    private static final Checks CHECKS = new Checks();

    private FaceTest() { }

    public static void main(String[] args) {
        CHECKS.due("a public final class", UpWithSheaf.class.getModifiers(), Modifier.PUBLIC | Modifier.FINAL);
        methods();
        fields();
        Constructor<?>[] made = UpWithSheaf.class.getDeclaredConstructors();
        CHECKS.due("constructors", made.length, 1);
        CHECKS.due("the constructor takes", made[0].getParameterCount(), 0);
        CHECKS.due("the constructor is public", made[0].getModifiers(), Modifier.PUBLIC);
        for (Class<?> inside : UpWithSheaf.class.getDeclaredClasses()) inside(inside);
        CHECKS.due("classes at most 12", UpWithSheaf.class.getDeclaredClasses().length <= 11 ? 1 : 0, 1);
        CHECKS.finish("FaceTest");
    }

    private static String told(Method m) {
        StringBuilder types = new StringBuilder();
        for (Class<?> type : m.getParameterTypes()) types.append(types.length() == 0 ? "" : ", ").append(type.getName());
        return m.getReturnType().getName() + " " + m.getName() + "(" + types + ")";
    }

    private static void methods() {
        TreeSet<String> seen = new TreeSet<>();
        for (Method m : UpWithSheaf.class.getDeclaredMethods()) {
            if (Modifier.isPrivate(m.getModifiers())) notOfTheFace(m);
            else if (m.getModifiers() == Modifier.PUBLIC) seen.add(told(m));
            else CHECKS.due("modifiers of " + m, m.getModifiers(), Modifier.PUBLIC);
        }
        if (!seen.equals(new TreeSet<>(FACE))) {
            System.out.println("the methods are " + seen);
            CHECKS.due("the face's methods", 0, 1);
        }
    }

    private static void notOfTheFace(Method m) {
        long same = FACE.stream().filter(f -> f.contains(" " + m.getName() + "(")).count();
        CHECKS.due("public methods with the name of the private " + m, same, 0);
    }

    private static void fields() {
        int[] values = {-1, -2, -3, -4, -9};
        for (Field f : UpWithSheaf.class.getDeclaredFields()) {
            int at = CONSTANTS.indexOf(f.getName());
            int due = Modifier.PUBLIC | Modifier.STATIC | Modifier.FINAL;
            if (at >= 0) CHECKS.due("modifiers of " + f, f.getModifiers(), due);
            else CHECKS.due("private is " + f, f.getModifiers() & Modifier.PRIVATE, Modifier.PRIVATE);
            if (Modifier.isStatic(f.getModifiers())) CHECKS.due("final is " + f, f.getModifiers() & Modifier.FINAL, Modifier.FINAL);
        }
        int[] has = {UpWithSheaf.UNKNOWN, UpWithSheaf.OUTSIDE, UpWithSheaf.STATE, UpWithSheaf.FULL, UpWithSheaf.NONE};
        CHECKS.due("the constants", Arrays.equals(values, has) ? 1 : 0, 1);
    }

    private static void inside(Class<?> c) {
        CHECKS.due("static is " + c, c.getModifiers() & Modifier.STATIC, Modifier.STATIC);
        CHECKS.due("not to be seen is " + c, c.getModifiers() & (Modifier.PUBLIC | Modifier.PROTECTED), 0);
        for (Method m : c.getDeclaredMethods()) notOfTheFace(m);
        for (Field f : c.getDeclaredFields()) {
            if (Modifier.isStatic(f.getModifiers())) CHECKS.due("final is " + f, f.getModifiers() & Modifier.FINAL, Modifier.FINAL);
        }
    }
}
