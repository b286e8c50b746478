import java.io.IOException;
import java.lang.reflect.Field;
import java.lang.reflect.InvocationTargetException;
import java.lang.reflect.Method;
import java.lang.reflect.Modifier;
import java.nio.file.DirectoryStream;
import java.nio.file.Files;
import java.nio.file.Path;
import java.util.HashMap;
import java.util.Map;
import java.util.regex.Matcher;
import java.util.regex.Pattern;

/** README.md says of each thing of the public face what the document says, and its example answers as it tells. */
public final class ReadmeTest {
    private static final Check check = new Check(ReadmeTest.class);
    private static final Pattern EXAMPLE = Pattern.compile("```java\n(.*?)```", Pattern.DOTALL);
    /** A line of the example: the name that keeps the answer, if any, the method, its arguments, the answer. */
    private static final Pattern LINE = Pattern.compile("(?:int (\\w+) = )?x\\.(\\w+)\\(([^)]*)\\);\\s*// (-?\\d+).*");
    /** status() names BAD, too, but as what others answered. */
    private static final Pattern REFUSES = Pattern.compile("BAD( as a long)?[:;.]");
    private static final String MAKING = "FleetSlots x = new FleetSlots();";
    private static final int FACE = 26;

    public static void main(String[] args) throws IOException, IllegalAccessException, InvocationTargetException {
        String readme = Files.readString(Path.of("README.md"));
        dueConstants(readme);
        dueTerms(readme);
        dueCalls(readme);
        dueExample(readme);
        dueTests(readme);
        check.end();
    }

    private static void dueConstants(String readme) throws IllegalAccessException {
        for (Field f : FleetSlots.class.getFields()) {
            check.dueTrue("a row of the constant " + f.getName(),
                readme.contains("\n| `" + f.getName() + "` | " + f.getInt(null) + " | "));
        }
    }

    private static void dueTerms(String readme) throws IOException {
        String words = Document.plain(readme.replaceAll("(?m)^[#|].*$", ""));
        for (Map.Entry<String, String> part : Document.parts().entrySet()) {
            boolean isOfTerms = part.getKey().startsWith("terms");
            check.dueTrue(part.getKey() + " stands there", !isOfTerms || words.contains(part.getValue()));
        }
    }

    /** What a call answers is all that its promise says, but for how it refuses, which is a column of its own. */
    private static void dueCalls(String readme) throws IOException {
        Map<String, String> calls = Document.calls();
        check.due("promises", FACE, calls.size());
        for (Map.Entry<String, String> call : calls.entrySet()) {
            String[] row = rowOf(readme, call.getKey());
            check.due(call.getKey() + ": columns of its row", 3, row.length);
            if (row.length == 3) {
                String words = call.getValue();
                String refuses = row[2].equals("-") ? "" : row[2];
                check.dueTrue(call.getKey() + " refuses in the document's words, not: " + refuses,
                    words.contains(refuses) && refuses.isEmpty() != REFUSES.matcher(words).find());
                check.dueTrue(call.getKey() + " answers in the document's words, not: " + row[1],
                    Document.plain(words.replace(refuses, "")).equals(row[1]));
            }
        }
    }

    /** Its columns, without *[what README.md adds to the document's words]*; none, if there is no row, or two. */
    private static String[] rowOf(String readme, String call) {
        String head = "\n| `" + call + "` |";
        int at = readme.indexOf(head);
        if (at < 0 || readme.indexOf(head, at + 1) >= 0) {
            return new String[0];
        }
        String line = readme.substring(at + 1, readme.indexOf("\n", at + 1));
        String[] row = line.replaceAll(" \\*\\[[^\\]]*\\]\\*", "").substring(1).split("\\|");
        for (int k = 0; k < row.length; k++) {
            row[k] = row[k].trim();
        }
        return row;
    }

    private static void dueExample(String readme) throws IllegalAccessException, InvocationTargetException {
        Matcher example = EXAMPLE.matcher(readme);
        String[] lines = example.find() ? example.group(1).split("\n") : new String[] {""};
        check.dueTrue("the example begins with " + MAKING, lines[0].equals(MAKING));
        FleetSlots x = new FleetSlots();
        Map<String, Integer> kept = new HashMap<>();
        kept.put("FleetSlots.NONE", FleetSlots.NONE);
        for (int k = 1; k < lines.length; k++) {
            Matcher line = LINE.matcher(lines[k]);
            boolean isCall = line.matches();
            check.dueTrue("a call and its answer: " + lines[k], isCall);
            if (isCall) {
                int answer = answerOf(x, line.group(2), line.group(3).split(",\\s*"), kept);
                check.due(lines[k], Integer.parseInt(line.group(4)), answer);
                kept.put(line.group(1), answer);
            }
        }
    }

    private static int answerOf(FleetSlots x, String name, String[] words, Map<String, Integer> kept)
        throws IllegalAccessException, InvocationTargetException {
        Object[] arguments = words[0].isEmpty() ? new Object[0] : new Object[words.length];
        for (int k = 0; k < arguments.length; k++) {
            arguments[k] = kept.containsKey(words[k]) ? kept.get(words[k]) : Integer.valueOf(words[k]);
        }
        for (Method m : FleetSlots.class.getDeclaredMethods()) {
            boolean isOfFace = Modifier.isPublic(m.getModifiers()) && m.getName().equals(name);
            if (isOfFace && m.getParameterCount() == arguments.length) {
                return ((Number) m.invoke(x, arguments)).intValue();
            }
        }
        check.dueTrue("the public face has " + name, false);
        return 0;
    }

    private static void dueTests(String readme) throws IOException {
        try (DirectoryStream<Path> tests = Files.newDirectoryStream(Path.of("src/test/java"), "*.java")) {
            for (Path test : tests) {
                String name = test.getFileName().toString().replace(".java", "");
                check.dueTrue("README.md tells of " + name, Pattern.compile("\\b" + name + "\\b").matcher(readme).find());
            }
        }
    }
}
