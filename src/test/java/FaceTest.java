import java.lang.reflect.Constructor;
import java.lang.reflect.Field;
import java.lang.reflect.Method;
import java.lang.reflect.Modifier;
import java.util.Set;
import java.util.TreeSet;

/** The public face is the document's, and nothing else of the class can be seen from outside. */
public final class FaceTest {
    private static final String[] FACE = {
        "int place(int)", "boolean fare(int,int,int)", "boolean green(int,int,int,int)",
        "int told(int,int)", "boolean patience(int)", "int job(int,int,int,int,int,int)",
        "boolean drop(int)", "int about(int,int)", "int lay()", "int laid(int,int)", "int cost()",
        "int best()", "int free(int,int)", "int pass(int)", "int delay(int)", "int behind(int)",
        "int paid()", "int atOnce()", "int saved()", "int regret(int)", "int worst()",
        "int would(int,int,int)", "int count(int)", "int trouble()"};

    private static final Class<?> CLASS = GreenHours.class;

    public static void main(String[] args) {
        Check c = new Check("The face");
        c.test("public and final", FaceTest::kind);
        c.test("the methods and no others", FaceTest::methods);
        c.test("the constant and no other field", FaceTest::fields);
        c.test("one constructor", FaceTest::constructors);
        c.test("classes inside", FaceTest::classesInside);
        c.end();
    }

    private static void kind(Check c) {
        c.due("modifiers", CLASS.getModifiers(), Modifier.PUBLIC | Modifier.FINAL);
    }

    private static void constructors(Check c) {
        Constructor<?>[] made = CLASS.getDeclaredConstructors();
        c.due("constructors", made.length, 1);
        c.due("a public one", Modifier.isPublic(made[0].getModifiers()), true);
        c.due("without arguments", made[0].getParameterCount(), 0);
    }

    private static void classesInside(Check c) {
        for (Class<?> inside : CLASS.getDeclaredClasses()) {
            c.due(inside + " is static", Modifier.isStatic(inside.getModifiers()), true);
            c.due(inside + " is not public", Modifier.isPublic(inside.getModifiers()), false);
            c.due(inside + " is not protected", Modifier.isProtected(inside.getModifiers()), false);
        }
    }

    private static void methods(Check c) {
        Set<String> due = new TreeSet<>(Set.of(FACE));
        Set<String> names = new TreeSet<>();
        for (String s : FACE) {
            names.add(s.substring(s.indexOf(' ') + 1, s.indexOf('(')));
        }
        for (Method m : CLASS.getDeclaredMethods()) {
            if (Modifier.isPrivate(m.getModifiers())) {
                c.due("private " + m.getName() + " bears a public name",
                    names.contains(m.getName()), false);
            } else {
                c.due("public " + m, Modifier.isPublic(m.getModifiers()), true);
                c.due("in the face: " + shape(m), due.remove(shape(m)), true);
            }
        }
        c.due("missing: " + due, due.size(), 0);
    }

    private static String shape(Method m) {
        StringBuilder s = new StringBuilder(m.getReturnType() + " " + m.getName() + "(");
        for (int i = 0; i < m.getParameterCount(); i++) {
            s.append(i == 0 ? "" : ",").append(m.getParameterTypes()[i]);
        }
        return s.append(")").toString();
    }

    private static void fields(Check c) {
        c.due("NONE", GreenHours.NONE, -1);
        for (Field f : CLASS.getDeclaredFields()) {
            if (f.getName().equals("NONE")) {
                c.due("NONE is a constant", f.getModifiers(),
                    Modifier.PUBLIC | Modifier.STATIC | Modifier.FINAL);
            } else {
                c.due(f + " is private", Modifier.isPrivate(f.getModifiers()), true);
            }
        }
    }
}
