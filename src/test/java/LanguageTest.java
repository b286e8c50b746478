import java.io.IOException;
import java.nio.file.Files;
import java.nio.file.Path;
import java.util.regex.Matcher;
import java.util.regex.Pattern;

/** The rules of ../shared/LANGUAGE.md that can be seen of the text of src/main/java/FleetSlots.java. */
public final class LanguageTest {
    private static final Check check = new Check(LanguageTest.class);
    /** A row each: the rule, and what it forbids in code without remarks. */
    private static final String[][] FORBIDDEN = {
        {"one file without a package line", "\\bpackage\\s+\\w"},
        {"2: no lambda", "(?m)^(?!.*\\b(case|default)\\b).*->"},
        {"2: no method reference", "::"},
        {"4: no other library", "\\bimport\\s+(?!java\\.util\\.(ArrayList|List|Arrays|Iterator)\\s*;)"},
        {"4: nothing whose name ends in Exact", "Exact\\s*\\("},
        {"4: of System only arraycopy", "\\bSystem\\.(?!arraycopy\\b)"},
        {"4: of Math only what is over int and long", "\\bMath\\.(random|sqrt|cbrt|pow|exp|log|sin|cos|tan|ceil|rint"
            + "|round|hypot)\\b"},
        {"5: no static initialiser block", "\\bstatic\\s*\\{"},
        {"6: no throw", "\\bthrows?\\b"},
        {"6: no try, catch", "\\b(try|catch|finally)\\b"},
        {"6: no synchronized, assert", "\\b(synchronized|assert)\\b"},
        {"6: no hashCode", "\\bhashCode\\b"},
        {"13: no clock, randomness, thread, environment", "\\b(Random|Thread|Runtime|Process|File|Socket)\\b"}};

    public static void main(String[] args) throws IOException {
        String text = Files.readString(Path.of("src/main/java/FleetSlots.java"));
        for (int i = 0; i < text.length(); i++) {
            if (text.charAt(i) > 126) {
                check.due("a sign beyond 126 at " + i, 0, text.charAt(i));
            }
        }
        String code = text.replaceAll("(?s)/\\*.*?\\*/", " ").replaceAll("//[^\n]*", " ");
        for (String[] row : FORBIDDEN) {
            check.due(row[0] + ": places", 0, Pattern.compile(row[1]).matcher(code).results().count());
        }
        dueShortMethods(text);
        check.end();
    }

    /** A method's end is the first brace that stands as far from the margin as its head. */
    private static void dueShortMethods(String text) {
        Matcher m = Pattern.compile("(?m)^( {2,8})[a-zA-Z][^;=]*\\([^;=]*\\) \\{\n(?s:.*?)^\\1\\}").matcher(text);
        while (m.find()) {
            long lines = m.group().lines().count();
            check.due("lines of a method, above 60: " + m.group().trim().split("\n")[0], 0, lines > 60 ? lines : 0);
        }
    }
}
