import java.io.IOException;
import java.nio.file.Files;
import java.nio.file.Path;
import java.util.LinkedHashMap;
import java.util.Map;

/**
 * The sentences of the document for which tests stand: each must stand there word by word, and none may be without a
 * test. (The public face is no sentences but Java: FaceTest holds it against the program.)
 */
final class Quotes {
    static final Path DOCUMENT = Path.of("../shared/DOC.md");

    private final Due due;
    private final Map<String, String> sections = new LinkedHashMap<>();
    private final Map<String, boolean[]> quoted = new LinkedHashMap<>();

    Quotes(Due due, Path document) {
        this.due = due;
        try {
            read(Files.readString(document));
        } catch (IOException e) {
            throw new IllegalStateException("no document at " + document, e);
        }
    }

    /** Signs and lines that are no sentences are left out: fences, titles of groups, the calls' own lines. */
    private void read(String document) {
        String section = "";
        for (String line : document.lines().toList()) {
            if (line.startsWith("## ")) {
                section = line.substring(3).replaceFirst(":.*", "");
            } else if (!line.startsWith("# ") && !line.startsWith("```") && !line.startsWith("Ahead of the calls ")) {
                String text = line.replaceFirst("^=+ \\d ", "").replaceFirst("^`.*`: ", "").strip();
                sections.merge(section, text, (before, next) -> (before + " " + next).strip());
            }
        }
        sections.forEach((name, text) -> quoted.put(name, new boolean[text.length()]));
    }

    /** What is told from now on stands for this sentence. */
    void says(String section, String sentence) {
        due.part(section + ": " + sentence);
        quote(section, sentence);
    }

    /** No call can tell whether such a sentence holds. */
    void tellsOfItself(String section, String sentence) {
        quote(section, sentence);
    }

    private void quote(String section, String sentence) {
        String text = sections.getOrDefault(section, "");
        int from = text.indexOf(sentence);
        due.is("stands in the document", from >= 0 ? 1 : 0, 1);
        for (int i = from; from >= 0 && i < from + sentence.length(); i++) {
            quoted.get(section)[i] = true;
        }
    }

    /** Tells what no test has quoted of the document. */
    void checkAllQuoted() {
        due.part("sentences without a test");
        sections.forEach((section, text) -> {
            if (!section.equals("The public face")) {
                StringBuilder left = new StringBuilder();
                for (int i = 0; i < text.length(); i++) {
                    left.append(quoted.get(section)[i] ? ' ' : text.charAt(i));
                }
                String rest = left.toString().strip();
                due.is(section + " '" + rest + "'", rest.isEmpty() ? 0 : 1, 0);
            }
        });
        due.is("promises in the document",
                sections.keySet().stream().filter(name -> name.startsWith("Promise ")).count(), 20);
    }
}
