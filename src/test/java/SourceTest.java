import java.io.IOException;
import java.nio.file.Files;
import java.nio.file.Path;
import java.util.regex.Matcher;
import java.util.regex.Pattern;

/** The words of LANGUAGE.md that the class must not use, and the length of its methods. */
final class SourceTest {
    private static final String[] FORBIDDEN = {
        "\\b(throw|throws|try|catch|finally|synchronized|assert|volatile|transient|native|package)\\b",
        "->", "::", "@", "\\bObject\\b", "\\bThread\\b", "\\bSystem\\.(?!arraycopy\\b)", "\\bMath\\.\\w*Exact\\b",
        "\\b(equals|hashCode|toString)\\b", "\\bvar\\b", "\\binstanceof\\b", "\\[\\]\\s*\\[\\]",
        "\\bstatic\\s*\\{", "\\bRandom\\b", "\\bimport(?! java\\.util\\.(Arrays|ArrayList|List|Iterator);)",
    };
    private static final int LONGEST_METHOD = 60;

    private SourceTest() {
    }

    static void run() {
        String source;
        try {
            source = Files.readString(Path.of("src/main/java/RingDraughts.java"));
        } catch (IOException e) {
            Check.due("the source, which can't be read: " + e.getMessage(), 0, 1);
            return;
        }
        String code = source.replaceAll("(?s)/\\*.*?\\*/", "").replaceAll("//[^\\n]*", "").replaceAll("'.'", "' '");
        for (String word : FORBIDDEN) {
            Matcher matcher = Pattern.compile(word).matcher(code);
            Check.due("uses of " + word, matcher.find() ? 1 : 0, 0);
        }
        Check.due("characters above 126", source.chars().filter(c -> c > 126).count(), 0);
        methodsAreShort(source);
    }

    private static void methodsAreShort(String source) {
        String[] lines = source.split("\n");
        for (String indent : new String[] {"    ", "        "}) {
            int start = -1;
            for (int i = 0; i < lines.length; i++) {
                if (lines[i].matches(indent + "\\S.*\\) \\{")) start = i;
                if (!lines[i].equals(indent + "}") || start < 0) continue;
                Check.due("lines of " + lines[start].trim(), Check.oneIf(i - start <= LONGEST_METHOD), 1);
                start = -1;
            }
        }
    }
}
