import java.nio.charset.StandardCharsets;
import java.nio.file.Files;
import java.nio.file.Path;
import java.util.ArrayList;
import java.util.LinkedHashMap;
import java.util.List;
import java.util.Map;

/**
 * Tests told by the document's own words: of which sentence the answers are due; and, at the
 * end, that the words stand in the document, and that none of its words is left without a test.
 */
final class Told {
    private static final Path DOCUMENT = Path.of("../shared/DOC.md");

    private static final Map<String, List<String>> TOLD = new LinkedHashMap<>();
    private static String where = "";
    private static String sentence = "";
    private static int answersAhead = 0;

    private Told() {
    }

    /** What is due from here on is due by these words of a promise. */
    static void at(int promise, String words) {
        begin("Promise " + promise, words);
    }

    /** By these words of the part of "Terms" behind "======== part" (part 0: ahead of the first). */
    static void term(int part, String words) {
        begin("Terms " + part, words);
    }

    /** By these words of "The public face". */
    static void face(String words) {
        begin("The public face", words);
    }

    private static void begin(String section, String words) {
        close();
        where = section;
        sentence = words;
        TOLD.computeIfAbsent(section, k -> new ArrayList<>()).add(plain(words));
    }

    private static void close() {
        if (!sentence.isEmpty() && Due.asked() == answersAhead) {
            Due.is(where + ", \"" + sentence + "\": answers that were asked for", 0, 1);
        }
        answersAhead = Due.asked();
    }

    static void is(String call, long got, long want) {
        Due.is(where + ", \"" + sentence + "\": " + call, got, want);
    }

    static void isSo(String what, boolean so) {
        is(what + " (1: it is so)", so ? 1 : 0, 1);
    }

    /** Ends the test; each of these sections of the document has to be told in full. */
    static void end(String test, String... sections) throws Exception {
        close();
        sentence = "";
        Map<String, String> document = sections();
        for (String section : TOLD.keySet()) {
            Due.is("section " + section + " is one of the test's", List.of(sections).contains(section) ? 1 : 0, 1);
        }
        for (String section : sections) {
            compare(section, document.getOrDefault(section, ""));
        }
        Due.end(test);
    }

    private static void compare(String section, String text) {
        Due.is("section " + section + " stands in the document", text.isEmpty() ? 0 : 1, 1);
        boolean[] told = new boolean[text.length()];
        for (String words : TOLD.getOrDefault(section, List.of())) {
            int from = text.indexOf(words);
            Due.is(section + " has the words: " + words, from >= 0 ? 1 : 0, 1);
            while (from >= 0) {
                for (int i = from; i < from + words.length(); i++) {
                    told[i] = true;
                }
                from = text.indexOf(words, from + 1);
            }
        }
        StringBuilder left = new StringBuilder();
        for (int i = 0; i < told.length; i++) {
            boolean out = !told[i] && Character.isLetterOrDigit(text.charAt(i));
            left.append(out ? text.charAt(i) : ' ');
        }
        String out = plain(left.toString());
        Due.is(section + " has words without a test: " + out, out.length(), 0);
    }

    /** The document's sections by name: a promise without its signature, "Terms" in parts. */
    static Map<String, String> sections() throws Exception {
        Map<String, String> all = new LinkedHashMap<>();
        String text = new String(Files.readAllBytes(DOCUMENT), StandardCharsets.UTF_8);
        for (String section : text.split("\n## ")) {
            String name = section.substring(0, section.indexOf('\n')).replaceAll("^(Promise \\d+):.*", "$1");
            String body = section.substring(section.indexOf('\n')).replaceAll("```(java|text)?", "");
            if (name.equals("Terms")) {
                String[] parts = body.split("======== \\d ");
                for (int i = 0; i < parts.length; i++) {
                    all.put("Terms " + i, plain(parts[i]));
                }
            } else if (name.startsWith("Promise ")) {
                all.put(name, plain(body.replaceFirst("(?s)^\\s*`[^`]*`:", "")));
                all.put(name + ", signature", plain(body.replaceFirst("(?s)^\\s*`([^`]*)`:.*", "$1")));
            } else {
                all.put(name, plain(body));
            }
        }
        return all;
    }

    private static String plain(String words) {
        return words.replaceAll("\\s+", " ").trim();
    }
}
