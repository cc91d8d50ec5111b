import java.io.IOException;
import java.nio.file.Files;
import java.nio.file.Path;
import java.util.ArrayList;
import java.util.HashMap;
import java.util.List;
import java.util.Map;

/** The sections of the document, and which of their words the tests have named. */
final class Document {
    private static final Path PLACE = Path.of("..", "shared", "DOC.md");
    private static final String SIGNATURE = "^`[^`]*`: ";

    private final Map<String, String> sections = new HashMap<>();
    private final Map<String, boolean[]> named = new HashMap<>();

    /** An empty one if the document isn't there: the class can be tested without it. */
    static Document read() {
        Document document = new Document();
        try {
            document.split(Files.readAllLines(PLACE));
        } catch (IOException e) {
            System.out.println("no " + PLACE + ": the tests' sentences are not looked up");
        }
        return document;
    }

    boolean isThere() {
        return !sections.isEmpty();
    }

    /** How often a section has these words; they are named from now on. */
    int name(String section, String words) {
        String text = sections.getOrDefault(section, "");
        int found = 0;
        for (int at = text.indexOf(words); at >= 0; at = text.indexOf(words, at + 1)) {
            mark(section, at, at + words.length());
            found++;
        }
        return found;
    }

    /** What stands between the words of a section that were named. */
    List<String> unnamed(String section) {
        String text = sections.getOrDefault(section, "");
        List<String> left = new ArrayList<>();
        StringBuilder run = new StringBuilder();
        for (int at = 0; at <= text.length(); at++) {
            if (at < text.length() && !named.get(section)[at]) {
                run.append(text.charAt(at));
            } else {
                keepWords(left, run.toString());
                run.setLength(0);
            }
        }
        return left;
    }

    private static void keepWords(List<String> left, String run) {
        if (run.chars().anyMatch(Character::isLetterOrDigit)) {
            left.add(run.trim());
        }
    }

    private void split(List<String> lines) {
        String section = "";
        for (String line : lines) {
            if (line.startsWith("## ")) {
                section = line.substring(3).replaceFirst(":.*", "");
            } else if (!line.startsWith("```")) {
                String words = line.replaceFirst(SIGNATURE, "").trim();
                sections.merge(section, words, (above, below) -> (above + " " + below).trim());
            }
        }
        for (Map.Entry<String, String> entry : sections.entrySet()) {
            named.put(entry.getKey(), new boolean[entry.getValue().length()]);
        }
    }

    private void mark(String section, int from, int to) {
        boolean[] marks = named.get(section);
        for (int at = from; at < to; at++) {
            marks[at] = true;
        }
    }
}
