import java.io.IOException;
import java.lang.reflect.Executable;
import java.lang.reflect.Field;
import java.lang.reflect.Modifier;
import java.nio.file.Files;
import java.nio.file.Path;
import java.util.ArrayList;
import java.util.List;
import java.util.regex.Matcher;
import java.util.regex.Pattern;

/** The rules of LANGUAGE.md that can be seen in the text of the class, or in what it compiles to. */
public final class SourceTest {
    private static final String[] BANNED = {"\\bthrow\\b", "\\bthrows\\b", "\\btry\\b", "\\bcatch\\b",
        "\\bsynchronized\\b", "\\bassert\\b", "->", "::", "\\bpackage\\b", "\\w+Exact\\b",
        "\\bSystem\\.(?!arraycopy)", "\\bRandom\\b", "\\bThread\\b", "\\bstatic\\s*\\{",
        "\\bdouble\\b", "\\bfloat\\b", "\\bprotected\\b", "\\bObject\\b"};

    private final String text;
    private final String code;

    private SourceTest(String text) {
        this.text = text;
        this.code = text.replaceAll("(?s)/\\*.*?\\*/", "").replaceAll("//[^\n]*", "");
    }

    public static void main(String[] args) throws IOException {
        SourceTest t = new SourceTest(Files.readString(Path.of("src/main/java/GreenHours.java")));
        Check c = new Check("The source");
        c.test("rules 2, 3, 4, 6 and 13: what must not be used", t::banned);
        c.test("rule 4: the library", t::imports);
        c.test("rule 5: static fields are final", t::statics);
        c.test("rule 3: characters 0 to 255 alone", t::characters);
        c.test("rules 3 and 5: types of fields", SourceTest::types);
        c.test("rule 11: classes, fields and parameters", SourceTest::sizes);
        c.test("rule 11: methods stay short", t::methodLengths);
        c.end();
    }

    private void banned(Check c) {
        for (String banned : BANNED) {
            c.due("uses of " + banned, count(code, banned), 0);
        }
    }

    private void imports(Check c) {
        c.due("imports", count(code, "\\bimport\\b"), 1);
        c.due("import of ArrayList", count(code, "import java\\.util\\.ArrayList;"), 1);
    }

    private void statics(Check c) {
        c.due("static fields that are not final", count(code, "\\bstatic (?!final)[^(;{]*[;=]"), 0);
    }

    private void characters(Check c) {
        c.due("characters above 255", count(text, "[^\\x00-\\xff]"), 0);
    }

    private static List<Class<?>> classes() {
        List<Class<?>> all = new ArrayList<>(List.of(GreenHours.class.getDeclaredClasses()));
        all.add(GreenHours.class);
        return all;
    }

    private static void types(Check c) {
        List<Class<?>> own = classes();
        List<Class<?>> plain = List.of(int.class, long.class, boolean.class);
        List<Class<?>> held = List.of(int[].class, int[][].class, ArrayList.class);
        for (Class<?> k : own) {
            for (Field f : k.getDeclaredFields()) {
                boolean fits = plain.contains(f.getType()) || !Modifier.isStatic(f.getModifiers())
                    && (held.contains(f.getType()) || own.contains(f.getType()));
                c.due("a type that fits: " + f, fits, true);
            }
        }
    }

    private static void sizes(Check c) {
        c.due("at most twelve classes", classes().size() <= 12, true);
        for (Class<?> k : classes()) {
            int fields = 0;
            for (Field f : k.getDeclaredFields()) {
                fields += Modifier.isStatic(f.getModifiers()) ? 0 : 1;
            }
            c.due("at most twenty fields: " + k, fields <= 20, true);
            List<Executable> calls = new ArrayList<>(List.of(k.getDeclaredMethods()));
            calls.addAll(List.of(k.getDeclaredConstructors()));
            for (Executable call : calls) {
                c.due("at most seven parameters: " + call, call.getParameterCount() <= 7, true);
            }
        }
    }

    /** A method ends with the first brace that stands as far in as its own first line. */
    private void methodLengths(Check c) {
        Matcher m = Pattern.compile("(?m)^( +)[\\w<>\\[\\] ]+\\([^;{}]*\\) \\{\n(?s:.*?)^\\1\\}$")
            .matcher(code);
        int methods = 0;
        while (m.find()) {
            methods++;
            String first = m.group().trim().split("\n")[0];
            c.due("at most sixty lines: " + first, count(m.group(), "\n") < 60, true);
        }
        c.due("methods are found", methods > GreenHours.class.getDeclaredMethods().length, true);
    }

    private static int count(String text, String pattern) {
        Matcher m = Pattern.compile(pattern).matcher(text);
        int n = 0;
        while (m.find()) {
            n++;
        }
        return n;
    }
}
