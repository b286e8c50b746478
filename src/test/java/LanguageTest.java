import java.io.IOException;
import java.nio.file.Files;
import java.nio.file.Path;
import java.util.regex.Matcher;
import java.util.regex.Pattern;

/** The rules of LANGUAGE.md that can be seen of the text of src/main/java/FleetSlots.java. */
public final class LanguageTest {
    private static final Check check = new Check(LanguageTest.class);
    private static final String[] FORBIDDEN = {"\\bthrow\\b", "\\bthrows\\b", "\\btry\\b", "\\bcatch\\b",
        "\\bsynchronized\\b", "\\bassert\\b", "\\bpackage\\b", "\\bimport\\b", "\\bprotected\\b", "\\byield\\b",
        "->", "::", "@", "\"", "Exact\\s*\\(", "\\bequals\\b", "\\bhashCode\\b", "\\btoString\\b",
        "\\b(Random|Thread|Runtime|Object|Class|Math\\.random)\\b", "\\bSystem\\.(?!arraycopy\\b)",
        "\\bMath\\.(?!(max|min|abs|floorDiv|floorMod)\\b)", "\\bstatic\\s*\\{", "\\bvar\\b", "\\bnative\\b"};

    public static void main(String[] args) throws IOException {
        String text = Files.readString(Path.of("src/main/java/FleetSlots.java"));
        for (int i = 0; i < text.length(); i++) {
            if (text.charAt(i) > 126) {
                check.due("a sign beyond 126 at " + i, 0, text.charAt(i));
            }
        }
        String code = text.replaceAll("(?s)/\\*.*?\\*/", " ").replaceAll("//[^\n]*", " ");
        for (String forbidden : FORBIDDEN) {
            Matcher m = Pattern.compile(forbidden).matcher(code);
            check.due("places of " + forbidden, 0, m.results().count());
        }
        dueShortMethods(text);
        check.end();
    }

    /** A method's end is the first brace that stands as far from the margin as its head. */
    private static void dueShortMethods(String text) {
        Matcher m = Pattern.compile("(?m)^( {4}| {8})[a-zA-Z][^;=]*\\([^;=]*\\) \\{\n(?s:.*?)^\\1\\}").matcher(text);
        int many = 0;
        while (m.find()) {
            many++;
            long lines = m.group().lines().count();
            check.due("lines of a method, above 60: " + m.group().trim().split("\n")[0], 0, lines > 60 ? lines : 0);
        }
        check.dueTrue("methods were found", many > 50);
    }
}
