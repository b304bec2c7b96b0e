import java.io.IOException;
import java.nio.file.Files;
import java.nio.file.Path;
import java.util.ArrayList;
import java.util.LinkedHashMap;
import java.util.List;
import java.util.Map;

/** The sentences of the document under their headings, and which of them tests have quoted. */
final class Doc {
    private final Map<String, String> sections = new LinkedHashMap<>();
    private final Map<String, boolean[]> quoted = new LinkedHashMap<>();

    Doc(Path file) throws IOException {
        String heading = "";
        for (String part : Files.readString(file).split("(?m)^## ")) {
            int end = part.indexOf('\n');
            heading = part.substring(0, Math.max(end, 0)).trim();
            if (heading.equals("What it is") || heading.equals("Terms") || heading.startsWith("Promise ")) {
                add(heading.replaceFirst(":.*", ""), part.substring(end));
            }
        }
    }

    private void add(String section, String text) {
        String words = text.replaceAll("```(text)?", " ");
        if (section.startsWith("Promise ")) {
            words = words.trim().replaceFirst("^`[^`]*`:", "");
        }
        words = plain(words);
        sections.put(section, words);
        quoted.put(section, new boolean[words.length()]);
    }

    private static String plain(String text) {
        return text.replaceAll("\\s+", " ").trim();
    }

    int size() {
        return sections.size();
    }

    /** Whether the words stand under that heading. */
    boolean quote(String section, String words) {
        String text = sections.getOrDefault(section, "");
        String want = plain(words);
        int at = want.isEmpty() ? -1 : text.indexOf(want);
        boolean found = at >= 0;
        while (at >= 0) {
            for (int k = at; k < at + want.length(); k++) {
                quoted.get(section)[k] = true;
            }
            at = text.indexOf(want, at + 1);
        }
        return found;
    }

    /** What no test has quoted, heading by heading. */
    List<String> unquoted() {
        List<String> all = new ArrayList<>();
        for (String section : sections.keySet()) {
            String text = sections.get(section);
            boolean[] marks = quoted.get(section);
            StringBuilder left = new StringBuilder();
            for (int k = 0; k <= text.length(); k++) {
                if (k < text.length() && !marks[k]) {
                    left.append(text.charAt(k));
                } else if (left.length() > 0) {
                    if (left.toString().matches("(?s).*[A-Za-z0-9].*")) {
                        all.add(section + ": " + left.toString().trim());
                    }
                    left.setLength(0);
                }
            }
        }
        return all;
    }
}
