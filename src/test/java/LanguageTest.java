import java.lang.reflect.Constructor;
import java.lang.reflect.Field;
import java.lang.reflect.InvocationTargetException;
import java.lang.reflect.Method;
import java.lang.reflect.Modifier;
import java.util.ArrayList;
import java.util.List;
import java.util.TreeSet;

/** The rules of ../shared/LANGUAGE.md that the compiled class shows. */
public final class LanguageTest {
    private static final Checks checks = new Checks();
    private static final int KINDS = 7;
    private static final int STEP_LIMIT = 81;

    public static void main(String[] args) throws ReflectiveOperationException {
        names();
        staticFields();
        sizes();
        machineLooksAtIndexes();
        programLooksAtIndexes();
        checks.end();
    }

    private static List<Class<?>> classes() {
        List<Class<?>> all = new ArrayList<>(List.of(DerivativeMatcher.class.getDeclaredClasses()));
        all.add(DerivativeMatcher.class);
        return all;
    }

    private static void names() {
        checks.sentence("rule 1: No private method bears the name of a public one.");
        TreeSet<String> open = new TreeSet<>();
        for (Method m : DerivativeMatcher.class.getDeclaredMethods()) {
            if (Modifier.isPublic(m.getModifiers())) {
                open.add(m.getName());
            }
        }
        for (Class<?> c : classes()) {
            for (Method m : c.getDeclaredMethods()) {
                boolean hidden = !Modifier.isPublic(m.getModifiers());
                checks.due("the name of " + m, hidden && open.contains(m.getName()), false);
            }
        }
        checks.sentence("rule 1: the classes inside it, which are private or package-visible and static");
        for (Class<?> c : DerivativeMatcher.class.getDeclaredClasses()) {
            int modifiers = c.getModifiers();
            checks.due(c + " is static", Modifier.isStatic(modifiers), true);
            checks.due(c + " is open", Modifier.isPublic(modifiers) || Modifier.isProtected(modifiers), false);
        }
    }

    private static void staticFields() {
        checks.sentence("rule 5: Static fields are final: constants of int, long, boolean, char or String");
        TreeSet<String> types = new TreeSet<>(List.of("int", "long", "boolean", "char", "String",
                "int[]", "long[]", "char[]", "byte[]"));
        for (Class<?> c : classes()) {
            for (Field f : c.getDeclaredFields()) {
                // What the compiler adds by itself (for a switch, for assertions) is not in the file.
                if (Modifier.isStatic(f.getModifiers()) && !f.isSynthetic()) {
                    checks.due(f + " is final", Modifier.isFinal(f.getModifiers()), true);
                    checks.due("the type of " + f, types.contains(f.getType().getSimpleName()), true);
                }
            }
        }
    }

    private static void sizes() {
        checks.sentence("rule 11: at most seven parameters, some twelve classes, some twenty fields");
        checks.due("at most twelve classes", classes().size() <= 12, true);
        for (Class<?> c : classes()) {
            int fields = 0;
            for (Field f : c.getDeclaredFields()) {
                fields += Modifier.isStatic(f.getModifiers()) ? 0 : 1;
            }
            checks.due("at most twenty fields in " + c, fields <= 20, true);
            for (Method m : c.getDeclaredMethods()) {
                checks.due("at most seven parameters of " + m, m.getParameterCount() <= 7, true);
            }
        }
    }

    /** A program that no reading makes: steps for which the stack lacks values, or rows. */
    private static void machineLooksAtIndexes() throws ReflectiveOperationException {
        checks.sentence("rule 7: an index is looked at before it is used");
        for (int kind = 0; kind < KINDS; kind++) {
            for (int values = 0; values <= 2; values++) {
                checks.due(values + " values, then step " + kind, endsByItself(values, kind, 1), true);
            }
            checks.due("80 values, then step " + kind, endsByItself(STEP_LIMIT - 1, kind, 1), true);
            checks.due("41 values, then steps " + kind, endsByItself(41, kind, 40), true);
            checks.due("steps " + kind, endsByItself(0, kind, STEP_LIMIT), true);
        }
    }

    private static void programLooksAtIndexes() throws ReflectiveOperationException {
        checks.sentence("rule 7: an index is looked at before it is used");
        checks.due("more steps than a program has", endsByItself(STEP_LIMIT, 0, 3), true);
    }

    /** Whether a run over so many empty rows, and then so many steps of a kind, throws nothing. */
    private static boolean endsByItself(int values, int kind, int steps) throws ReflectiveOperationException {
        Object program = make("Program");
        Method add = method(program, "add");
        Object machine = make("Machine");
        Object matcher = new DerivativeMatcher();
        Field line = DerivativeMatcher.class.getDeclaredField("wordLine");
        line.setAccessible(true);
        try {
            for (int k = 0; k < values; k++) {
                add.invoke(program, 0, 0, 0);
            }
            for (int k = 0; k < steps; k++) {
                add.invoke(program, kind, 1, 2);
            }
            method(machine, "run").invoke(machine, program, line.get(matcher));
            return true;
        } catch (InvocationTargetException thrown) {
            System.out.println("  thrown: " + thrown.getCause());
            return false;
        }
    }

    private static Object make(String name) throws ReflectiveOperationException {
        for (Class<?> c : DerivativeMatcher.class.getDeclaredClasses()) {
            if (c.getSimpleName().equals(name)) {
                Constructor<?> constructor = c.getDeclaredConstructor();
                constructor.setAccessible(true);
                return constructor.newInstance();
            }
        }
        throw new NoSuchMethodException(name);
    }

    private static Method method(Object on, String name) throws ReflectiveOperationException {
        for (Method m : on.getClass().getDeclaredMethods()) {
            if (m.getName().equals(name)) {
                m.setAccessible(true);
                return m;
            }
        }
        throw new NoSuchMethodException(name);
    }
}
