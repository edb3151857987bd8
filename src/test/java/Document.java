import java.io.IOException;
import java.nio.file.Files;
import java.nio.file.Path;
import java.util.ArrayList;
import java.util.List;
import java.util.Map;
import java.util.TreeMap;

/** ../shared/DOC.md, part by part, so that the tests quote what is there. */
final class Document {
    private final Map<String, StringBuilder> parts = new TreeMap<>();
    private final Map<String, List<String>> refusals = new TreeMap<>();

    Document(Path file) throws IOException {
        String part = "";
        for (String line : Files.readAllLines(file)) {
            if (line.startsWith("## ") || line.startsWith("== ")) {
                part = nameOf(line);
            }
            parts.computeIfAbsent(part, p -> new StringBuilder()).append(plain(line)).append(' ');
            if (line.startsWith("Throws ")) {
                refusals.computeIfAbsent(part, p -> new ArrayList<>()).add(plain(line));
            }
        }
    }

    private static String nameOf(String heading) {
        String text = heading.substring(3).trim();
        if (heading.startsWith("== ")) {
            return "section " + text.substring(0, text.indexOf('.'));
        }
        int colon = text.indexOf(':');
        return (colon < 0 ? text : text.substring(0, colon)).toLowerCase();
    }

    static String plain(String text) {
        return text.replace("`", "").replaceAll("\\s+", " ").trim();
    }

    boolean has(String where, String words) {
        return parts.containsKey(where) && parts.get(where).indexOf(plain(words)) >= 0;
    }

    /** The lines that tell of an exception, each with its part in front of it. */
    List<String> refusals() {
        List<String> all = new ArrayList<>();
        for (Map.Entry<String, List<String>> entry : refusals.entrySet()) {
            for (String line : entry.getValue()) {
                all.add(entry.getKey() + ": " + line);
            }
        }
        return all;
    }
}
