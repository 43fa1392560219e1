import java.lang.reflect.Constructor;
import java.lang.reflect.Field;
import java.lang.reflect.Method;
import java.lang.reflect.Modifier;
import java.util.Arrays;
import java.util.TreeSet;

/** The public face: the document's constants, constructor and methods, and nothing else that can be seen. */
public final class FaceTest {
    private static final String[] METHODS = {
        "int unit(int)", "int lead(int, int, int)", "int rate(int, int, int)", "int table(int, int, int, int, int)",
        "int set(int, int, int)", "int control(int, int, int, int)", "int turn(int, int)", "int run(int)",
        "int hold(int, int)", "int about(int, int)", "int told(int, int)", "long sum(int, int)",
        "long ledBack(int, int, int, int)", "int reading(int, int, int, int)", "long close(int, int, int)",
        "int load(int, int, int)", "int unload()", "int blend(int, int, int)", "int count(int)"};

    public static void main(String[] args) {
        Check check = new Check();
        check.due("NONE", GrindWorks.NONE, -1);
        check.due("BAD", GrindWorks.BAD, -2);
        check.due("STATE", GrindWorks.STATE, -3);
        check.due("FULL", GrindWorks.FULL, -4);
        check.due("NO", GrindWorks.NO, Long.MIN_VALUE);
        check.due("class is public and final", GrindWorks.class.getModifiers(), Modifier.PUBLIC | Modifier.FINAL);
        same(check, "methods", seenMethods(), new TreeSet<>(Arrays.asList(METHODS)));
        same(check, "fields", seenFields(), new TreeSet<>(Arrays.asList("int NONE", "int BAD", "int STATE", "int FULL", "long NO")));
        Constructor<?>[] constructors = GrindWorks.class.getDeclaredConstructors();
        check.due("constructors", constructors.length, 1);
        check.due("constructor is public", constructors[0].getModifiers(), Modifier.PUBLIC);
        check.due("constructor's parameters", constructors[0].getParameterCount(), 0);
        check.due("private methods that bear the name of a public one", namesTwice(), 0);
        check.end();
    }

    /** Rule 1 of LANGUAGE.md, for the classes inside too. */
    private static int namesTwice() {
        TreeSet<String> names = new TreeSet<>();
        for (Method m : GrindWorks.class.getMethods()) {
            names.add(m.getName());
        }
        int count = 0;
        for (Method m : GrindWorks.class.getDeclaredMethods()) {
            count += Modifier.isPrivate(m.getModifiers()) && names.contains(m.getName()) ? 1 : 0;
        }
        for (Class<?> inside : GrindWorks.class.getDeclaredClasses()) {
            for (Method m : inside.getDeclaredMethods()) {
                count += names.contains(m.getName()) ? 1 : 0;
            }
        }
        return count;
    }

    private static void same(Check check, String what, TreeSet<String> got, TreeSet<String> want) {
        check.due(what + " " + got + " and " + want + " are the same", got.equals(want) ? 1 : 0, 1);
    }

    private static TreeSet<String> seenMethods() {
        TreeSet<String> seen = new TreeSet<>();
        for (Method m : GrindWorks.class.getDeclaredMethods()) {
            if (!Modifier.isPrivate(m.getModifiers())) {
                String types = Arrays.toString(m.getParameterTypes());
                seen.add(m.getReturnType() + " " + m.getName() + "(" + types.substring(1, types.length() - 1) + ")");
            }
        }
        return seen;
    }

    private static TreeSet<String> seenFields() {
        TreeSet<String> seen = new TreeSet<>();
        for (Field f : GrindWorks.class.getDeclaredFields()) {
            if (!Modifier.isPrivate(f.getModifiers())) {
                seen.add(f.getType() + " " + f.getName());
            }
        }
        return seen;
    }
}
