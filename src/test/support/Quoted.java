import java.io.IOException;
import java.nio.file.Files;
import java.nio.file.Path;
import java.util.BitSet;
import java.util.LinkedHashMap;
import java.util.Map;

/** The document in sections, and which of its words a test has quoted: so no sentence of it stays without a test. */
class Quoted extends Bench {
    private static final Path DOCUMENT = Path.of("../shared/DOC.md");
    private static final Map<String, String> SECTIONS = new LinkedHashMap<>();
    private static final Map<String, BitSet> SEEN = new LinkedHashMap<>();

    static void openTerms() throws IOException {
        String document = Files.readString(DOCUMENT);
        String terms = between(document, "## Terms", "The constants:").replace("```text", "").replace("```", "");
        for (int n = 1; n <= 7; n++) {
            String from = n == 1 ? "" : "==== " + n + ".";
            open("part " + n, n == 7 ? between(terms, from, null) : between(terms, from, "==== " + (n + 1) + "."));
        }
    }

    static void openPromises() throws IOException {
        String document = Files.readString(DOCUMENT);
        for (int n = 1; n <= 34; n++) {
            String section = between(document, "## Promise " + n + ":", n == 34 ? "## Not promised" : "## Promise " + (n + 1) + ":");
            open("promise " + n, between(section, ")`:", null));
        }
    }

    /** What follows is the test of this sentence. */
    static void part(int n, String sentence) {
        quote("part " + n, sentence);
    }

    static void promise(int n, String sentence) {
        quote("promise " + n, sentence);
    }

    /** All words of the sections must have been quoted. */
    static void finishQuoted() {
        for (Map.Entry<String, String> section : SECTIONS.entrySet()) {
            about(section.getKey());
            String text = section.getValue();
            BitSet seen = SEEN.get(section.getKey());
            StringBuilder left = new StringBuilder();
            for (int i = 0; i < text.length(); i++) {
                if (!seen.get(i) && Character.isLetterOrDigit(text.charAt(i))) {
                    left.append(text.charAt(i));
                }
            }
            due("words without a test: " + left, left.length(), 0);
        }
        finish();
    }

    private static void open(String name, String text) {
        SECTIONS.put(name, plain(text));
        SEEN.put(name, new BitSet());
    }

    private static void quote(String section, String sentence) {
        about(section + ", \"" + sentence + "\"");
        int at = SECTIONS.get(section).indexOf(plain(sentence));
        due("where the document says it", at >= 0 ? 1 : 0, 1);
        if (at >= 0) {
            SEEN.get(section).set(at, at + plain(sentence).length());
        }
    }

    private static String plain(String text) {
        return text.replaceAll("\\s+", " ").trim();
    }

    private static String between(String text, String from, String to) {
        int a = text.indexOf(from) + from.length();
        return to == null ? text.substring(a) : text.substring(a, text.indexOf(to, a));
    }
}
