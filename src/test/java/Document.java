import java.io.IOException;
import java.nio.file.Files;
import java.nio.file.Path;
import java.util.BitSet;
import java.util.LinkedHashMap;
import java.util.List;
import java.util.Map;
import java.util.regex.MatchResult;
import java.util.regex.Pattern;

/**
 * The document, by which the sentences that tests name are held to be its own, and by which it is
 * seen that none of its sentences was left out. Its place is the property "document".
 */
final class Document {
    private static final Map<String, String> TEXTS = read();
    private static final Map<String, BitSet> NAMED = new LinkedHashMap<>();
    private static final Pattern METHOD =
        Pattern.compile("public (\\w+ \\w+)\\(([^)]*)\\)(?: throws ([^;]*))?;");

    private Document() {
    }

    static void name(String section, String quote) {
        if (TEXTS.isEmpty()) {
            return;
        }
        String text = TEXTS.getOrDefault(section, "");
        int at = text.indexOf(quote);
        Checks.equal("a sentence of " + section, at >= 0 ? "a sentence of " + section : quote);
        if (at >= 0) {
            NAMED.computeIfAbsent(section, key -> new BitSet()).set(at, at + quote.length());
        }
    }

    /** The methods of the public face: answer and name; parameters; exceptions, or null. */
    static List<MatchResult> face() {
        return METHOD.matcher(TEXTS.getOrDefault("The public face", "")).results().toList();
    }

    /** Every word under 'Terms' and under a promise's heading is in a sentence that was named. */
    static void allNamed() {
        for (Map.Entry<String, String> section : TEXTS.entrySet()) {
            if (section.getKey().matches("Terms|Promise \\d+")) {
                BitSet named = NAMED.getOrDefault(section.getKey(), new BitSet());
                Checks.equal(section.getKey() + ": ",
                    section.getKey() + ": " + notNamed(section.getValue(), named));
            }
        }
        if (TEXTS.isEmpty()) {
            System.out.println("no document: its sentences were not looked up");
        }
    }

    private static String notNamed(String text, BitSet named) {
        StringBuilder rest = new StringBuilder();
        for (int at = 0; at < text.length(); at++) {
            if (!named.get(at) && Character.isLetterOrDigit(text.charAt(at))) {
                rest.append(text.charAt(at));
            }
        }
        return rest.toString();
    }

    private static Map<String, String> read() {
        Map<String, String> texts = new LinkedHashMap<>();
        Path path = Path.of(System.getProperty("document", "../shared/DOC.md"));
        try {
            for (String part : Files.readString(path).split("(?m)^## ")) {
                int end = part.indexOf('\n');
                String heading = part.substring(0, Math.max(end, 0));
                String name = heading.replaceAll("(Promise \\d+):.*", "$1");
                texts.put(name, plain(part.substring(heading.length())));
            }
        } catch (IOException unreadable) {
            texts.clear();
        }
        return texts;
    }

    /** Without the marks of code, without the call's head that a promise begins with. */
    private static String plain(String part) {
        return part.replaceAll("(?m)^```.*$", "")
            .replaceFirst("(?s)^\\s*`[^`]*`:", "")
            .replaceAll("\\s+", " ").trim();
    }
}
