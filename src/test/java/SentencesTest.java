import java.io.IOException;
import java.nio.file.DirectoryStream;
import java.nio.file.Files;
import java.nio.file.Path;
import java.util.ArrayList;
import java.util.List;
import java.util.regex.Matcher;
import java.util.regex.Pattern;

/** Every sentence of the terms and of the promises has a test that tells so by its words. */
final class SentencesTest {
    private static final Pattern TOLD = Pattern.compile(
        "Check\\.sentence\\(\\s*(-?\\d+|Document\\.INTRODUCTION),\\s*((?:\"(?:[^\"\\\\]|\\\\.)*\"\\s*\\+?\\s*)+)\\)");
    private static final Pattern PART = Pattern.compile("\"((?:[^\"\\\\]|\\\\.)*)\"");

    private final List<List<String>> told = new ArrayList<>();

    private SentencesTest() {
        for (int promise = Document.TERMS; promise <= Document.PROMISES; promise++) told.add(new ArrayList<>());
    }

    static void run() {
        SentencesTest test = new SentencesTest();
        try {
            test.readTests();
        } catch (IOException e) {
            Check.due("the tests, which can't be read: " + e.getMessage(), 0, 1);
        }
        for (int promise = Document.TERMS; promise <= Document.PROMISES; promise++) test.isToldOf(promise);
    }

    private void readTests() throws IOException {
        try (DirectoryStream<Path> files = Files.newDirectoryStream(Path.of("src", "test", "java"), "*Test.java")) {
            for (Path file : files) readTest(Files.readString(file));
        }
    }

    private void readTest(String source) {
        Matcher matcher = TOLD.matcher(source);
        while (matcher.find()) {
            if (matcher.group(1).startsWith("D")) continue;
            StringBuilder words = new StringBuilder();
            Matcher part = PART.matcher(matcher.group(2));
            while (part.find()) words.append(part.group(1).replace("\\\"", "\""));
            told.get(Integer.parseInt(matcher.group(1))).add(words.toString());
        }
    }

    private void isToldOf(int promise) {
        List<String> sentences = Document.sentences(promise);
        Check.due("sentences of " + Document.title(promise), Check.oneIf(!sentences.isEmpty()), 1);
        for (String sentence : sentences) {
            if (sentence.equals("CONVENTIONS.")) continue;
            boolean isTold = false;
            for (String words : told.get(promise)) isTold |= sentence.contains(words) || words.contains(sentence);
            Check.due("a test of " + Document.title(promise) + ", \"" + sentence + "\"", Check.oneIf(isTold), 1);
        }
    }
}
