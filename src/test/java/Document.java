import java.io.IOException;
import java.nio.file.Files;
import java.nio.file.Path;
import java.util.LinkedHashMap;
import java.util.Map;
import java.util.TreeMap;
import java.util.regex.Matcher;
import java.util.regex.Pattern;

/** The words of ../shared/DOC.md, with one blank between them. */
final class Document {
    private static final Path FILE = Path.of("../shared/DOC.md");
    /** The parts of the Terms, by the words that begin them; 0 is what stands ahead of the first of these. */
    private static final Pattern PART = Pattern.compile("======== (\\d) ");
    private static final Pattern PROMISE = Pattern.compile("## Promise (\\d+): [^\n]*\n\\s*`([^`]*)`: ([^#]*)");

    private Document() {
    }

    /** "terms0" to "terms4", "promise01" to "promise26": the words of each. */
    static Map<String, String> parts() throws IOException {
        String doc = Files.readString(FILE);
        Map<String, String> parts = new TreeMap<>();
        int from = doc.indexOf("## Terms\n");
        int to = doc.indexOf("Ahead of the calls `sheet`", from);
        if (from >= 0 && to > from) {
            putTerms(parts, doc.substring(from + "## Terms\n".length(), to));
        }
        Matcher promise = PROMISE.matcher(doc);
        while (promise.find()) {
            parts.put(String.format("promise%02d", Integer.parseInt(promise.group(1))), plain(promise.group(3)));
        }
        return parts;
    }

    private static void putTerms(Map<String, String> parts, String words) {
        String terms = words.replace("```text", " ").replace("```", " ");
        Matcher part = PART.matcher(terms);
        String name = "terms0";
        int begin = 0;
        while (part.find()) {
            parts.put(name, plain(terms.substring(begin, part.start())));
            name = "terms" + part.group(1);
            begin = part.end();
        }
        parts.put(name, plain(terms.substring(begin)));
    }

    /** What each promise is of, as "int drop(int sheet)", and its words. */
    static Map<String, String> calls() throws IOException {
        Map<String, String> calls = new LinkedHashMap<>();
        Matcher promise = PROMISE.matcher(Files.readString(FILE));
        while (promise.find()) {
            calls.put(promise.group(2), plain(promise.group(3)));
        }
        return calls;
    }

    static String plain(String text) {
        return text.replaceAll("\\s+", " ").trim();
    }
}
