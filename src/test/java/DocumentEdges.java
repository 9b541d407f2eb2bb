import java.io.IOException;
import java.nio.file.Files;
import java.nio.file.Path;
import java.util.LinkedHashMap;
import java.util.Map;
import java.util.regex.Matcher;
import java.util.regex.Pattern;

/** Every word of the document's terms and promises is quoted by a test of the edges, and no test quotes what isn't there. */
final class DocumentEdges {
    private static final Path DOCUMENT = Path.of("../shared/DOC.md");

    private DocumentEdges() {
    }

    static void all() throws IOException {
        Map<String, String> sections = sections(Files.readString(DOCUMENT));
        Check.same("terms, TOKENS, FAULTS, SLOTS, promises and the head", sections.size(), 9 + 3 + 73 + 1);
        Map<String, boolean[]> quoted = new LinkedHashMap<>();
        sections.forEach((name, text) -> quoted.put(name, new boolean[text.length()]));
        for (String[] quote : Edge.QUOTED) {
            String text = sections.getOrDefault(quote[0], "");
            int at = text.indexOf(quote[1]);
            Check.isTrue("section " + quote[0] + " says: " + quote[1], at >= 0);
            for (; at >= 0; at = text.indexOf(quote[1], at + 1)) {
                java.util.Arrays.fill(quoted.get(quote[0]), at, at + quote[1].length(), true);
            }
        }
        sections.forEach((name, text) -> Check.isTrue("section " + name + " has no test for: " + rest(text, quoted.get(name)),
                rest(text, quoted.get(name)).isEmpty()));
    }

    /** What no test quotes, signs between words aside. */
    private static String rest(String text, boolean[] quoted) {
        StringBuilder rest = new StringBuilder();
        for (int i = 0; i < text.length(); i++) {
            if (!quoted[i]) {
                rest.append(text.charAt(i));
            }
        }
        return rest.toString().replaceAll("[^A-Za-z0-9]+", " ").trim();
    }

    private static Map<String, String> sections(String document) {
        Map<String, String> sections = new LinkedHashMap<>();
        find(sections, document, "(?m)^(An object is used .*)$", "head");
        find(sections, document, "(?m)^([IVX]+)\\. (.*)$", null);
        find(sections, document, "(?m)^  ((TOKENS|FAULTS|SLOTS) .*|(TOKENS|FAULTS|SLOTS), .*)$", "");
        find(sections, document, "(?m)^## Promise (\\d+): .*\n\n`.*?`: (.*)$", null);
        return sections;
    }

    /** A name of its own for all that is found, the first word of it (""), or the first group (null). */
    private static void find(Map<String, String> sections, String document, String pattern, String name) {
        Matcher matcher = Pattern.compile(pattern).matcher(document);
        while (matcher.find()) {
            String text = matcher.group(name == null ? 2 : 1);
            String first = name == null ? matcher.group(1) : name.isEmpty() ? text.split("[ ,]")[0] : name;
            sections.put(first, text);
        }
    }
}
