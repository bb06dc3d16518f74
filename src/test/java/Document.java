import java.io.IOException;
import java.nio.file.Files;
import java.nio.file.Path;
import java.util.ArrayList;
import java.util.LinkedHashMap;
import java.util.List;
import java.util.Map;

/** The document as sentences, by section; in a promise what stands between semicolons is a sentence of its own. */
final class Document {
    private static final Path PATH = Path.of("../shared/DOC.md");

    private final Map<String, List<String>> sections = new LinkedHashMap<>();

    Document() throws IOException {
        String section = "";
        boolean inExamples = false;
        for (String line : Files.readString(PATH).split("\n")) {
            if (line.startsWith("## ")) {
                section = line.substring(3).replaceAll(":.*", "").strip();
                sections.put(section, new ArrayList<>());
                inExamples = false;
            } else if (sections.containsKey(section) && !inExamples) {
                // the examples have a test of their own, with every call
                inExamples = line.startsWith("Examples:");
                split(line, section);
            }
        }
    }

    private void split(String line, String section) {
        String ends = section.startsWith("Promise") ? "(?<=[a-zA-Z0-9)])(?:[.] (?=[A-Z(])|; )" : "(?<=[a-z0-9)])[.] (?=[A-Z(])";
        for (String sentence : line.replaceFirst("^- ", "").split(ends)) {
            String words = sentence.strip().replaceFirst("[.:]$", "");
            if (!words.isEmpty()) sections.get(section).add(words);
        }
    }

    Iterable<String> sections() {
        return sections.keySet();
    }

    /** Where the words stand in the document, counted in sentences; -1 if they stand nowhere in the section. */
    int indexOf(String section, String words) {
        int before = 0;
        for (Map.Entry<String, List<String>> each : sections.entrySet()) {
            for (int k = 0; k < each.getValue().size() && each.getKey().equals(section); k++) {
                if (each.getValue().get(k).contains(words)) return before + k;
            }
            before += each.getValue().size();
        }
        return -1;
    }

    List<String> sentences(String section) {
        return sections.getOrDefault(section, List.of());
    }
}
