import java.io.IOException;
import java.lang.reflect.Method;
import java.util.Map;
import java.util.TreeMap;

/**
 * Each word of the Terms and the promises of ../shared/DOC.md has a test that says it: so no sentence is without one,
 * and no test says what the document does not.
 */
public final class SentencesTest {
    private static final Check check = new Check(SentencesTest.class);
    private static final Class<?>[] TESTS = {SheetsTest.class, VersionsTest.class, DevicesTest.class,
        CampaignsTest.class, AskedTest.class, RefusedTest.class};

    public static void main(String[] args) throws IOException {
        Map<String, String> parts = Document.parts();
        check.due("parts: 5 of the Terms, 26 promises", 31, parts.size());
        Map<String, boolean[]> said = new TreeMap<>();
        for (Map.Entry<String, String> part : parts.entrySet()) {
            said.put(part.getKey(), new boolean[part.getValue().length()]);
        }
        for (Class<?> tests : TESTS) {
            for (Method m : Check.testsOf(tests)) {
                note(m, parts, said);
            }
        }
        for (Map.Entry<String, String> part : parts.entrySet()) {
            check.due(part.getKey() + " has no test for: " + unsaid(part.getValue(), said.get(part.getKey())), 0,
                unsaid(part.getValue(), said.get(part.getKey())).length());
        }
        check.end();
    }

    private static void note(Method m, Map<String, String> parts, Map<String, boolean[]> said) {
        String name = m.getName().split("_")[0];
        String words = parts.get(name);
        check.dueTrue(m.getName() + " begins with a part of the document", words != null);
        if (words == null) {
            return;
        }
        for (String quote : m.getAnnotation(Says.class).value()) {
            int at = words.indexOf(quote);
            check.dueTrue(name + " says, once: " + quote, at >= 0 && words.indexOf(quote, at + 1) < 0);
            for (int k = at; at >= 0 && k < at + quote.length(); k++) {
                said.get(name)[k] = true;
            }
        }
    }

    private static String unsaid(String words, boolean[] said) {
        StringBuilder left = new StringBuilder();
        for (int k = 0; k < words.length(); k++) {
            boolean sign = Character.isLetterOrDigit(words.charAt(k));
            left.append(said[k] || !sign ? ' ' : words.charAt(k));
        }
        return Document.plain(left.toString());
    }
}
