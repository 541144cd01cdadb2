import java.lang.reflect.Constructor;
import java.lang.reflect.Field;
import java.lang.reflect.Method;
import java.lang.reflect.Modifier;
import java.util.Arrays;
import java.util.TreeSet;

/** The public face of the document and LANGUAGE.md's rules 1 and 5, as far as a class file tells them. */
public final class FaceTest {
    private static final String IOOBE = "java.lang.IndexOutOfBoundsException";
    private static final String ISE = "java.lang.IllegalStateException";
    private static final String IAE = "java.lang.IllegalArgumentException";

    public static void main(String[] args) {
        methods();
        constructorsAndFields();
        Check.end("FaceTest");
    }

    private static void methods() {
        Check.sentence("The public face");
        TreeSet<String> due = new TreeSet<>(Arrays.asList(
            "void poke[int, int] " + IOOBE + " " + ISE, "int input[int]", "int step[]", "int forth[int] " + IAE,
            "int back[int] " + IAE, "void go[int] " + IAE, "boolean setBreak[int] " + IOOBE,
            "boolean clearBreak[int] " + IOOBE, "boolean setWatch[int] " + IOOBE, "boolean clearWatch[int] " + IOOBE,
            "int state[int] " + IOOBE, "int cell[int]", "int stack[int] " + IOOBE, "int checkpoint[int] " + IOOBE));
        TreeSet<String> got = new TreeSet<>();
        TreeSet<String> names = new TreeSet<>();
        for (Method m : ReplayMachine.class.getDeclaredMethods()) {
            if (!Modifier.isPrivate(m.getModifiers())) {
                got.add(described(m));
                names.add(m.getName());
                Check.same(m + " is public and not static", m.getModifiers() & ~Modifier.FINAL, Modifier.PUBLIC);
            }
        }
        System.out.print(got.equals(due) ? "" : "the face is " + got + "\n");
        Check.same("the methods of the face", got.equals(due), true);
        privateNames(names);
    }

    private static String described(Method m) {
        StringBuilder text = new StringBuilder();
        text.append(m.getReturnType()).append(' ').append(m.getName());
        text.append(Arrays.toString(m.getParameterTypes()));
        for (Class<?> e : m.getExceptionTypes()) {
            text.append(' ').append(e.getName());
        }
        return text.toString();
    }

    private static void privateNames(TreeSet<String> names) {
        Check.sentence("No private method bears the name of a public one.");
        for (Method m : ReplayMachine.class.getDeclaredMethods()) {
            Check.same(m + " has a name of its own", Modifier.isPrivate(m.getModifiers()) && names.contains(m.getName()), false);
        }
        for (Class<?> c : ReplayMachine.class.getDeclaredClasses()) {
            Check.same(c + " is static", Modifier.isStatic(c.getModifiers()), true);
            for (Method m : c.getDeclaredMethods()) {
                Check.same(m + " has a name of its own", names.contains(m.getName()), false);
            }
            staticFieldsAreFinal(c);
        }
    }

    private static void constructorsAndFields() {
        Check.sentence("no other public, protected or package-visible member ... Static fields are final");
        Check.same("public final class", ReplayMachine.class.getModifiers(), Modifier.PUBLIC | Modifier.FINAL);
        Constructor<?>[] made = ReplayMachine.class.getDeclaredConstructors();
        Check.same("constructors", made.length, 1);
        Check.same("its modifiers", made[0].getModifiers(), Modifier.PUBLIC);
        Check.same("its parameters", Arrays.equals(made[0].getParameterTypes(), new Class<?>[] {int.class}), true);
        for (Field f : ReplayMachine.class.getDeclaredFields()) {
            Check.same(f + " is private", Modifier.isPrivate(f.getModifiers()), true);
        }
        staticFieldsAreFinal(ReplayMachine.class);
    }

    private static void staticFieldsAreFinal(Class<?> c) {
        for (Field f : c.getDeclaredFields()) {
            int modifiers = f.getModifiers();
            Check.same(f + " is final if static", Modifier.isStatic(modifiers) && !Modifier.isFinal(modifiers), false);
        }
    }
}
