import java.io.IOException;
import java.nio.file.Files;
import java.nio.file.Path;
import java.util.regex.Matcher;
import java.util.regex.Pattern;

/** The rules of LANGUAGE.md that can be seen in the text of the class. */
public final class SourceTest {
    private static final String[] BANNED = {"\\bthrow\\b", "\\bthrows\\b", "\\btry\\b", "\\bcatch\\b",
        "\\bsynchronized\\b", "\\bassert\\b", "->", "::", "\\bpackage\\b", "\\w+Exact\\b",
        "\\bSystem\\.(?!arraycopy)", "\\bRandom\\b", "\\bThread\\b", "\\bstatic\\s*\\{",
        "\\bdouble\\b", "\\bfloat\\b", "\\bprotected\\b", "\\bObject\\b"};

    public static void main(String[] args) throws IOException {
        Check c = new Check();
        String text = Files.readString(Path.of("src/main/java/GreenHours.java"));
        String code = text.replaceAll("(?s)/\\*.*?\\*/", "").replaceAll("//[^\n]*", "");
        for (String banned : BANNED) {
            c.due("uses of " + banned, count(code, banned), 0);
        }
        c.due("imports", count(code, "\\bimport\\b"), 1);
        c.due("import of ArrayList", count(code, "import java\\.util\\.ArrayList;"), 1);
        c.due("static fields that are not final", count(code, "\\bstatic (?!final)[^(;{]*[;=]"), 0);
        c.due("characters above 255", count(text, "[^\\x00-\\xff]"), 0);
        c.end("SourceTest");
    }

    private static int count(String text, String pattern) {
        Matcher m = Pattern.compile(pattern).matcher(text);
        int n = 0;
        while (m.find()) {
            n++;
        }
        return n;
    }
}
