import java.io.IOException;
import java.nio.file.Files;
import java.nio.file.Path;
import java.util.regex.Matcher;
import java.util.regex.Pattern;

/** The rules of LANGUAGE.md that can be seen in the text of the class. */
public final class SourceTest {
    private static final String[] BANNED = {"\\bthrow\\b", "\\bthrows\\b", "\\btry\\b", "\\bcatch\\b",
        "\\bsynchronized\\b", "\\bassert\\b", "->", "::", "\\bpackage\\b", "\\w+Exact\\b",
        "\\bSystem\\.(?!arraycopy)", "\\bRandom\\b", "\\bThread\\b", "\\bstatic\\s*\\{",
        "\\bdouble\\b", "\\bfloat\\b", "\\bprotected\\b", "\\bObject\\b"};

    private final String text;
    private final String code;

    private SourceTest(String text) {
        this.text = text;
        this.code = text.replaceAll("(?s)/\\*.*?\\*/", "").replaceAll("//[^\n]*", "");
    }

    public static void main(String[] args) throws IOException {
        SourceTest t = new SourceTest(Files.readString(Path.of("src/main/java/GreenHours.java")));
        Check c = new Check("The source");
        c.test("rules 2, 3, 4, 6 and 13: what must not be used", t::banned);
        c.test("rule 4: the library", t::imports);
        c.test("rule 5: static fields are final", t::statics);
        c.test("rule 3: characters 0 to 255 alone", t::characters);
        c.end();
    }

    private void banned(Check c) {
        for (String banned : BANNED) {
            c.due("uses of " + banned, count(code, banned), 0);
        }
    }

    private void imports(Check c) {
        c.due("imports", count(code, "\\bimport\\b"), 1);
        c.due("import of ArrayList", count(code, "import java\\.util\\.ArrayList;"), 1);
    }

    private void statics(Check c) {
        c.due("static fields that are not final", count(code, "\\bstatic (?!final)[^(;{]*[;=]"), 0);
    }

    private void characters(Check c) {
        c.due("characters above 255", count(text, "[^\\x00-\\xff]"), 0);
    }

    private static int count(String text, String pattern) {
        Matcher m = Pattern.compile(pattern).matcher(text);
        int n = 0;
        while (m.find()) {
            n++;
        }
        return n;
    }
}
