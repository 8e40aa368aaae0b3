import java.io.IOException;
import java.nio.file.Files;
import java.nio.file.Path;
import java.util.LinkedHashMap;
import java.util.Map;

/** The document by its sections, and which of its words some test has quoted. */
final class Document {
    private static final class Section {
        final String text;
        final boolean[] quoted;

        Section(String text) {
            this.text = text;
            this.quoted = new boolean[text.length()];
        }
    }

    private final Map<String, Section> sections = new LinkedHashMap<>();

    Document(Path path) throws IOException {
        String title = "";
        StringBuilder body = new StringBuilder();
        for (String line : Files.readAllLines(path)) {
            if (line.startsWith("## ")) {
                keep(title, body.toString());
                title = line.substring(3).replaceAll(":.*", "");
                body.setLength(0);
            } else if (!line.startsWith("```")) {
                body.append(line).append(' ');
            }
        }
        keep(title, body.toString());
    }

    /** The calls' heads, between backquotes, and the numbers of the parts say nothing that could be tested. */
    private void keep(String title, String body) {
        String plain = body.replaceAll("`[^`]*`: ", "").replaceAll("==== [0-9]\\.", "").replaceAll("\\s+", " ");
        sections.put(title, new Section(plain.trim()));
    }

    void quote(String title, String words) {
        Section section = sections.get(title);
        int at = section == null ? -1 : section.text.indexOf(words);
        Check.due("'" + words + "' stands under '" + title + "'", true, at >= 0);
        while (at >= 0) {
            for (int i = at; i < at + words.length(); i++) {
                section.quoted[i] = true;
            }
            at = section.text.indexOf(words, at + 1);
        }
    }

    /** Each word of the Terms and the Promises must be quoted by some test. */
    void reportUnquoted() {
        for (Map.Entry<String, Section> entry : sections.entrySet()) {
            if (entry.getKey().startsWith("Promise ") || entry.getKey().equals("Terms")) {
                reportUnquoted(entry.getKey(), entry.getValue());
            }
        }
    }

    private static void reportUnquoted(String title, Section section) {
        StringBuilder left = new StringBuilder();
        for (int i = 0; i <= section.text.length(); i++) {
            if (i < section.text.length() && !section.quoted[i]) {
                left.append(section.text.charAt(i));
            } else {
                boolean hasWords = left.toString().matches(".*[A-Za-z0-9].*");
                Check.due("no test quotes, under '" + title + "': '" + left + "'", false, hasWords);
                left.setLength(0);
            }
        }
    }
}
