import java.io.IOException;
import java.nio.file.Files;
import java.nio.file.Path;
import java.util.LinkedHashMap;
import java.util.Map;
import java.util.Set;
import java.util.TreeSet;

/**
 * The document, cut into the sections that the tests name: "What it is", "The public face", "Terms" and its parts by
 * their headings ("THE DRIVE" and so on), "The constants", "Ahead of the calls", and "Promise 1" to "Promise 26". Line
 * ends are blanks, and the signs of the markup are left out.
 */
final class Doc {
    private static final Path FILE = Path.of("..", "shared", "DOC.md");
    private static final Map<String, String> SECTIONS = read();
    private static final Map<String, boolean[]> QUOTED = new LinkedHashMap<>();

    private Doc() {
    }

    private static Map<String, String> read() {
        Map<String, String> sections = new LinkedHashMap<>();
        if (!Files.exists(FILE)) {
            System.out.println("no " + FILE + " here: the tests run, but their quotes are not looked up");
            return sections;
        }
        try {
            String section = "";
            for (String line : Files.readAllLines(FILE)) {
                String heading = heading(line);
                section = heading == null ? section : heading;
                if (isText(line)) {
                    sections.merge(section, plain(line), (a, b) -> a + (a.isEmpty() || b.isEmpty() ? "" : " ") + b);
                }
            }
        } catch (IOException e) {
            throw new IllegalStateException("can't read " + FILE, e);
        }
        return sections;
    }

    private static String heading(String line) {
        if (line.startsWith("## ")) {
            return line.substring(3).replaceFirst(":.*", "");
        }
        if (isShouted(line)) {
            return line.trim();
        }
        return line.startsWith("The constants:") ? "The constants"
            : line.startsWith("Ahead of the calls") ? "Ahead of the calls" : null;
    }

    /** Neither a heading of its own nor a fence round code. */
    private static boolean isText(String line) {
        return !line.startsWith("## ") && !isShouted(line) && !line.startsWith("```");
    }

    private static boolean isShouted(String line) {
        return line.matches("[A-Z][A-Z ]+");
    }

    private static String plain(String line) {
        return line.replaceFirst("^`[^`]*\\)[^`]*`: ", "").replaceFirst("^- ", "").replace("`", "").trim();
    }

    static boolean isThere() {
        return !SECTIONS.isEmpty();
    }

    /** The sections, without what stands ahead of the first one. */
    static Set<String> sections() {
        Set<String> names = new TreeSet<>(SECTIONS.keySet());
        names.remove("");
        return names;
    }

    static String section(String name) {
        return SECTIONS.getOrDefault(name, "");
    }

    /** Marks these words of a section as quoted; tells whether they stand there. */
    static boolean quote(String section, String words) {
        if (!isThere()) {
            return true;
        }
        String whole = section(section);
        boolean[] quoted = QUOTED.computeIfAbsent(section, s -> new boolean[whole.length()]);
        int at = whole.indexOf(words);
        if (at < 0 || words.isEmpty()) {
            return false;
        }
        for (int i = at; i < at + words.length(); i++) {
            quoted[i] = true;
        }
        return true;
    }

    /** The words of a section that no test has quoted. */
    static String unquoted(String section) {
        String whole = section(section);
        boolean[] quoted = QUOTED.getOrDefault(section, new boolean[whole.length()]);
        StringBuilder left = new StringBuilder();
        for (int i = 0; i < whole.length(); i++) {
            left.append(quoted[i] ? ' ' : whole.charAt(i));
        }
        return left.toString().replaceAll("[^A-Za-z0-9]+", " ").trim();
    }
}
