import java.lang.reflect.Constructor;
import java.lang.reflect.Field;
import java.lang.reflect.Method;
import java.lang.reflect.Modifier;
import java.util.Set;
import java.util.TreeSet;

/** The public face is the document's, and nothing else of the class can be seen from outside. */
public final class FaceTest {
    private static final String[] FACE = {
        "int place(int)", "boolean fare(int,int,int)", "boolean green(int,int,int,int)",
        "int told(int,int)", "boolean patience(int)", "int job(int,int,int,int,int,int)",
        "boolean drop(int)", "int about(int,int)", "int lay()", "int laid(int,int)", "int cost()",
        "int best()", "int free(int,int)", "int pass(int)", "int delay(int)", "int behind(int)",
        "int paid()", "int atOnce()", "int saved()", "int regret(int)", "int worst()",
        "int would(int,int,int)", "int count(int)", "int trouble()"};

    public static void main(String[] args) throws ReflectiveOperationException {
        Check c = new Check();
        Class<?> k = GreenHours.class;
        c.due("public final", k.getModifiers(), Modifier.PUBLIC | Modifier.FINAL);
        methods(c, k);
        fields(c, k);
        Constructor<?>[] made = k.getDeclaredConstructors();
        c.due("constructors", made.length, 1);
        c.due("a public one", Modifier.isPublic(made[0].getModifiers()), true);
        c.due("without arguments", made[0].getParameterCount(), 0);
        for (Class<?> inside : k.getDeclaredClasses()) {
            c.due(inside + " is static", Modifier.isStatic(inside.getModifiers()), true);
            c.due(inside + " is not public", Modifier.isPublic(inside.getModifiers()), false);
        }
        c.end("FaceTest");
    }

    private static void methods(Check c, Class<?> k) {
        Set<String> due = new TreeSet<>(Set.of(FACE));
        Set<String> names = new TreeSet<>();
        for (String s : FACE) {
            names.add(s.substring(s.indexOf(' ') + 1, s.indexOf('(')));
        }
        for (Method m : k.getDeclaredMethods()) {
            if (Modifier.isPrivate(m.getModifiers())) {
                c.due("private " + m.getName() + " bears a public name",
                    names.contains(m.getName()), false);
            } else {
                c.due("public " + m, Modifier.isPublic(m.getModifiers()), true);
                c.due("in the face: " + shape(m), due.remove(shape(m)), true);
            }
        }
        c.due("missing: " + due, due.size(), 0);
    }

    private static String shape(Method m) {
        StringBuilder s = new StringBuilder(m.getReturnType() + " " + m.getName() + "(");
        for (int i = 0; i < m.getParameterCount(); i++) {
            s.append(i == 0 ? "" : ",").append(m.getParameterTypes()[i]);
        }
        return s.append(")").toString();
    }

    private static void fields(Check c, Class<?> k) throws ReflectiveOperationException {
        Field none = k.getDeclaredField("NONE");
        c.due("NONE", none.getInt(null), -1);
        c.due("NONE is a constant", none.getModifiers(),
            Modifier.PUBLIC | Modifier.STATIC | Modifier.FINAL);
        for (Field f : k.getDeclaredFields()) {
            if (!f.equals(none)) {
                c.due(f + " is private", Modifier.isPrivate(f.getModifiers()), true);
            }
        }
    }
}
