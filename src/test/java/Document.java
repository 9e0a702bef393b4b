import java.io.IOException;
import java.nio.file.Files;
import java.nio.file.Path;
import java.util.ArrayList;
import java.util.List;

/** The document, so that tests can be held against its words. */
final class Document {
    /** What stands in place of a promise's number for the parts of the document that are no promise. */
    static final int INTRODUCTION = -1, TERMS = 0;
    static final int PROMISES = 23;

    private static final Path FILE = Path.of("..", "shared", "DOC.md");
    private static List<String> lines = null;

    private Document() {
    }

    static String title(int promise) {
        if (promise == INTRODUCTION) return "What it is";
        return promise == TERMS ? "Terms" : "Promise " + promise;
    }

    static boolean says(int promise, String words) {
        for (String line : section(promise)) if (line.contains(words)) return true;
        return false;
    }

    /** The lines of a part, without those that are empty. */
    static List<String> section(int promise) {
        List<String> section = new ArrayList<>();
        boolean isIn = false;
        for (String line : allLines()) {
            if (line.startsWith("## ")) isIn = (line + ":").startsWith("## " + title(promise) + ":");
            else if (isIn && !line.isBlank() && !line.startsWith("#")) section.add(line);
        }
        return section;
    }

    /** The lines of the public face that are Java. */
    static List<String> face() {
        List<String> face = new ArrayList<>();
        for (String line : allLines()) if (line.startsWith("    public ")) face.add(line.trim());
        return face;
    }

    /** What has to be tested by itself: sentences, and of those that tell answers each of their parts. */
    static List<String> sentences(int promise) {
        List<String> sentences = new ArrayList<>();
        for (String line : section(promise)) {
            String text = line.replaceFirst("^`[^`]*`: ", "").replaceFirst("^- ", "");
            String end = promise > TERMS && text.startsWith("Returns ") ? "; " : "(?<=\\.|\\.\\)) (?=[A-Z(\"])";
            if (text.startsWith("Ahead of the calls") && !text.contains(";")) continue;
            sentences.addAll(List.of(text.split(end)));
        }
        return sentences;
    }

    private static List<String> allLines() {
        if (lines != null) return lines;
        try {
            lines = Files.readAllLines(FILE);
        } catch (IOException e) {
            lines = List.of();
        }
        return lines;
    }
}
