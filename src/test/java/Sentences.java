import java.io.IOException;
import java.nio.charset.StandardCharsets;
import java.nio.file.Files;
import java.nio.file.Path;
import java.util.LinkedHashMap;
import java.util.Map;

/**
 * The words of the document's Terms and promises, and which of them a test has quoted so far. So a
 * test cannot speak of a sentence that is not there, and no sentence can be left without a test.
 */
final class Sentences {
    static final String TERMS = "Terms";

    private final Map<String, String> words = new LinkedHashMap<>();
    private final Map<String, boolean[]> quoted = new LinkedHashMap<>();
    private final Due due;

    Sentences(Path document, Due due) throws IOException {
        this.due = due;
        String text = Files.readString(document, StandardCharsets.UTF_8);
        for (String section : text.split("(?m)^## ")) {
            String title = section.lines().findFirst().orElse("").trim();
            String body = section.substring(section.indexOf('\n') + 1);
            if (title.equals(TERMS)) {
                keep(TERMS, body.split("Ahead of the calls")[0]);
            } else if (title.startsWith("Promise ")) {
                keep(title.split(":")[0], body.replaceFirst("`[^`]*`:", ""));
            }
        }
        due.is("sections of the document", words.size(), 37);
    }

    private void keep(String section, String body) {
        String plain = body.replace("```text", "").replace("```", "").replaceAll("={8} \\d", "");
        String text = plain.replaceAll("\\s+", " ").trim();
        words.put(section, text);
        quoted.put(section, new boolean[text.length()]);
    }

    void quote(String section, String sentence) {
        String text = words.getOrDefault(section, "");
        int at = text.indexOf(sentence);
        due.are(section + " says '" + sentence + "'", at < 0 ? "no" : "yes", "yes");
        while (at >= 0) {
            for (int k = 0; k < sentence.length(); k++) {
                quoted.get(section)[at + k] = true;
            }
            at = text.indexOf(sentence, at + 1);
        }
    }

    /** Every letter and figure of the document has been quoted by a test. */
    void allQuoted() {
        for (String section : words.keySet()) {
            StringBuilder left = new StringBuilder();
            String text = words.get(section);
            for (int k = 0; k < text.length(); k++) {
                left.append(quoted.get(section)[k] ? ' ' : text.charAt(k));
            }
            String unquoted = left.toString().replaceAll("\\s+", " ").trim();
            boolean some = unquoted.chars().anyMatch(Character::isLetterOrDigit);
            due.are(section + ", without a test", some ? unquoted : "nothing", "nothing");
        }
    }
}
