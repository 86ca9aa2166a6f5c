import java.io.IOException;
import java.nio.file.Files;
import java.nio.file.Path;
import java.util.LinkedHashMap;
import java.util.Map;

/**
 * Which sentences of the document a test is about: each one that is quoted must be there, and each one that is there
 * must be quoted by a test.
 */
final class Doc {
    private static final Path FILE = Path.of("../shared/DOC.md");
    private static final char QUOTED = '\0';

    private static final Map<String, StringBuilder> SECTIONS = new LinkedHashMap<>();

    private Doc() {
    }

    /** Without the document there is nothing to compare quotes with; the answers are tested all the same. */
    static void read() throws IOException {
        if (!Files.exists(FILE)) {
            System.out.println("the document is not at " + FILE + ": quotes are not compared with it");
            return;
        }
        StringBuilder section = new StringBuilder();
        for (String line : Files.readAllLines(FILE)) {
            if (line.startsWith("#")) {
                section = new StringBuilder();
                SECTIONS.put(line.replaceFirst("#+ ", "").replaceFirst("(Promise \\d+):.*", "$1"), section);
            } else if (!line.startsWith("Ahead of the calls")) {
                section.append(line.replaceFirst("^`\\w+(\\[\\])? ?\\w*\\(.*?\\)`: ", "")).append(' ');
            }
        }
    }

    static void says(String section, String sentence) {
        if (SECTIONS.isEmpty()) {
            return;
        }
        StringBuilder text = SECTIONS.getOrDefault(section, new StringBuilder());
        int at = text.indexOf(sentence);
        Check.holds(section + " says: " + sentence, at >= 0);
        for (int i = Math.max(at, 0); at >= 0 && i < at + sentence.length(); i++) {
            text.setCharAt(i, QUOTED);
        }
    }

    /** The terms and the promises; the sections before and behind them name nothing that a call answers. */
    static void allIsQuoted() {
        for (Map.Entry<String, StringBuilder> section : SECTIONS.entrySet()) {
            String name = section.getKey();
            if (name.startsWith("Promise") || name.equals("The plate") || name.equals("Grains")
                    || name.equals("Settings") || name.equals("Texts") || name.equals("Changes and errors")) {
                String left = section.getValue().toString().replace(QUOTED, ' ').replaceAll("[\\s-]+", " ").trim();
                Check.holds(name + " has a test for: " + left, left.isEmpty());
            }
        }
    }
}
