import java.io.IOException;
import java.lang.reflect.Method;
import java.nio.file.Files;
import java.nio.file.Path;
import java.util.Map;
import java.util.TreeMap;
import java.util.regex.Matcher;
import java.util.regex.Pattern;

/**
 * Each word of the Terms and the promises of ../shared/DOC.md has a test that says it: so no sentence is without one,
 * and no test says what the document does not.
 */
public final class SentencesTest {
    private static final Check check = new Check(SentencesTest.class);
    private static final Class<?>[] TESTS = {SheetsTest.class, VersionsTest.class, DevicesTest.class,
        CampaignsTest.class, AskedTest.class, RefusedTest.class};
    /** The parts of the Terms, by the words that begin them; 0 is what stands ahead of the first of these. */
    private static final Pattern PART = Pattern.compile("======== (\\d) ");
    private static final Pattern PROMISE = Pattern.compile("## Promise (\\d+): [^\n]*\n\\s*`[^`]*`: ([^#]*)");

    public static void main(String[] args) throws IOException {
        Map<String, String> parts = partsOf(Files.readString(Path.of("../shared/DOC.md")));
        check.due("parts: 5 of the Terms, 26 promises", 31, parts.size());
        Map<String, boolean[]> said = new TreeMap<>();
        for (Map.Entry<String, String> part : parts.entrySet()) {
            said.put(part.getKey(), new boolean[part.getValue().length()]);
        }
        for (Class<?> tests : TESTS) {
            for (Method m : Check.testsOf(tests)) {
                note(m, parts, said);
            }
        }
        for (Map.Entry<String, String> part : parts.entrySet()) {
            check.due(part.getKey() + " has no test for: " + unsaid(part.getValue(), said.get(part.getKey())), 0,
                unsaid(part.getValue(), said.get(part.getKey())).length());
        }
        check.end();
    }

    /** "terms0" to "terms4", "promise01" to "promise26": the words of each, with one blank between them. */
    private static Map<String, String> partsOf(String doc) {
        Map<String, String> parts = new TreeMap<>();
        int from = doc.indexOf("## Terms\n");
        int to = doc.indexOf("Ahead of the calls `sheet`", from);
        check.dueTrue("the document has Terms", from >= 0 && to > from);
        String terms = doc.substring(from + "## Terms\n".length(), to).replace("```text", " ").replace("```", " ");
        Matcher part = PART.matcher(terms);
        String name = "terms0";
        int begin = 0;
        while (part.find()) {
            parts.put(name, plain(terms.substring(begin, part.start())));
            name = "terms" + part.group(1);
            begin = part.end();
        }
        parts.put(name, plain(terms.substring(begin)));
        Matcher promise = PROMISE.matcher(doc);
        while (promise.find()) {
            parts.put(String.format("promise%02d", Integer.parseInt(promise.group(1))), plain(promise.group(2)));
        }
        return parts;
    }

    private static String plain(String text) {
        return text.replaceAll("\\s+", " ").trim();
    }

    private static void note(Method m, Map<String, String> parts, Map<String, boolean[]> said) {
        String name = m.getName().split("_")[0];
        String words = parts.get(name);
        check.dueTrue(m.getName() + " begins with a part of the document", words != null);
        if (words == null) {
            return;
        }
        for (String quote : m.getAnnotation(Says.class).value()) {
            int at = words.indexOf(quote);
            check.dueTrue(name + " says, once: " + quote, at >= 0 && words.indexOf(quote, at + 1) < 0);
            for (int k = at; at >= 0 && k < at + quote.length(); k++) {
                said.get(name)[k] = true;
            }
        }
    }

    private static String unsaid(String words, boolean[] said) {
        StringBuilder left = new StringBuilder();
        for (int k = 0; k < words.length(); k++) {
            boolean sign = Character.isLetterOrDigit(words.charAt(k));
            left.append(said[k] || !sign ? ' ' : words.charAt(k));
        }
        return plain(left.toString());
    }
}
