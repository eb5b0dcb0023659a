import java.io.IOException;
import java.nio.file.Files;
import java.nio.file.Path;
import java.util.ArrayList;
import java.util.LinkedHashMap;
import java.util.List;
import java.util.Map;

/** The document by its parts ("Terms 1" to "Terms 6", "Constants", "Promise 1" ..), and which of its words a test holds. */
final class Doc {
    private static final Path FILE = Path.of("..", "shared", "DOC.md");
    private static final Map<String, String> TEXTS = new LinkedHashMap<>();
    private static final Map<String, boolean[]> HELD = new LinkedHashMap<>();

    private Doc() {
    }

    /** Without the document, as in another folder than the project's, its words can't be looked up. */
    static boolean isThere() {
        return Files.exists(FILE);
    }

    /** Whether a part of the document has some words; they count as held from then on. */
    static boolean hold(String part, String words) {
        read();
        String looked = plain(words);
        int at = TEXTS.getOrDefault(part, "").indexOf(looked);
        for (int i = at; at >= 0 && i < at + looked.length(); i++) {
            HELD.get(part)[i] = true;
        }
        return at >= 0;
    }

    /** The words of a part, without line ends. */
    static String text(String part) {
        read();
        return TEXTS.getOrDefault(part, "");
    }

    /** The words of Terms, constants and promises that no test holds. */
    static List<String> unheld() {
        read();
        List<String> found = new ArrayList<>();
        for (String part : TEXTS.keySet()) {
            if (part.startsWith("Terms") || part.startsWith("Promise") || part.equals("Constants")) {
                unheld(part, found);
            }
        }
        return found;
    }

    private static void unheld(String part, List<String> found) {
        StringBuilder words = new StringBuilder();
        String text = TEXTS.get(part) + " ";
        for (int i = 0; i < text.length(); i++) {
            boolean free = i < text.length() - 1 && !HELD.get(part)[i];
            if (free) {
                words.append(text.charAt(i));
            } else {
                if (words.chars().anyMatch(Character::isLetterOrDigit)) {
                    found.add(part + ": " + words);
                }
                words.setLength(0);
            }
        }
    }

    private static String plain(String text) {
        return text.replace("`", "").replaceAll("\\s+", " ").trim();
    }

    private static void read() {
        if (!TEXTS.isEmpty() || !isThere()) {
            return;
        }
        Map<String, StringBuilder> parts = new LinkedHashMap<>();
        String part = "Title";
        for (String line : lines()) {
            String words = line;
            if (line.startsWith("## ")) {
                String name = line.substring(3);
                part = name.equals("Terms") ? "Terms 1" : name.startsWith("Promise") ? name.substring(0, name.indexOf(':')) : name;
                words = "";
            } else if (line.startsWith("```")) {
                words = "";
            } else if (part.startsWith("Terms") && line.startsWith("==== ")) {
                part = "Terms " + line.charAt(5);
                words = line.substring(7);
            } else if (line.startsWith("The constants: ")) {
                part = "Constants";
                words = line.substring(15);
            } else if (part.startsWith("Promise")) {
                words = line.replaceFirst("^`[^`]*`: ", "");
            }
            parts.computeIfAbsent(part, name -> new StringBuilder()).append(words).append(' ');
        }
        parts.forEach((name, text) -> {
            TEXTS.put(name, plain(text.toString()));
            HELD.put(name, new boolean[TEXTS.get(name).length()]);
        });
    }

    private static List<String> lines() {
        try {
            return Files.readAllLines(FILE);
        } catch (IOException unread) {
            throw new IllegalStateException(unread);
        }
    }
}
