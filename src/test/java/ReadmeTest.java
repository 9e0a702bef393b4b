import java.io.IOException;
import java.lang.reflect.InvocationTargetException;
import java.lang.reflect.Method;
import java.nio.file.Files;
import java.nio.file.Path;
import java.util.regex.Matcher;
import java.util.regex.Pattern;

/** The calls of README.md answer what README.md says, and it names every call and every constant. */
final class ReadmeTest {
    private static final Pattern CALL = Pattern.compile("^game\\.(\\w+)\\((.*)\\); +// (-?\\d+):");
    private static final Pattern MADE = Pattern.compile("^(?:RingDraughts )?game = new RingDraughts\\(\\);");
    private static final Pattern CHARACTERS = Pattern.compile("characters\\(\"(.*)\"\\)");
    private static final int FEWEST_CALLS = 20;

    private ReadmeTest() {
    }

    static void run() {
        String readme;
        try {
            readme = Files.readString(Path.of("README.md"));
        } catch (IOException e) {
            Check.due("README.md, which can't be read: " + e.getMessage(), 0, 1);
            return;
        }
        RingDraughts game = null;
        int calls = 0;
        for (String line : readme.split("\n")) {
            if (MADE.matcher(line).find()) game = new RingDraughts();
            Matcher matcher = CALL.matcher(line);
            if (!matcher.find()) continue;
            calls++;
            Check.due("README.md: " + line.trim(), answer(game, matcher.group(1), matcher.group(2)), Long.parseLong(matcher.group(3)));
        }
        Check.due("calls with answers in README.md: " + calls, Check.oneIf(calls >= FEWEST_CALLS), 1);
        for (Method method : RingDraughts.class.getDeclaredMethods()) {
            if (!java.lang.reflect.Modifier.isPublic(method.getModifiers())) continue;
            Check.due("README.md names " + method.getName(), Check.oneIf(readme.contains(method.getName() + "(")), 1);
        }
        for (String name : new String[] {"NO_SUCH", "BAD_VALUE", "BAD_TEXT", "TOO_MANY", "NOT_POSSIBLE", "NONE", ".ci/run"}) {
            Check.due("README.md names " + name, Check.oneIf(readme.contains(name)), 1);
        }
    }

    private static long answer(RingDraughts game, String name, String arguments) {
        String[] texts = arguments.isEmpty() ? new String[0] : arguments.split(", ");
        for (Method method : RingDraughts.class.getDeclaredMethods()) {
            if (!method.getName().equals(name) || method.getParameterCount() != texts.length) continue;
            Object[] values = new Object[texts.length];
            for (int i = 0; i < texts.length; i++) values[i] = value(method.getParameterTypes()[i], texts[i]);
            try {
                return (Integer) method.invoke(game, values);
            } catch (IllegalAccessException | InvocationTargetException e) {
                return Long.MIN_VALUE;
            }
        }
        return Long.MAX_VALUE;
    }

    private static Object value(Class<?> type, String text) {
        if (type == boolean.class) return Boolean.parseBoolean(text);
        Matcher matcher = CHARACTERS.matcher(text);
        if (matcher.matches()) return Check.characters(matcher.group(1));
        if (type == long.class) return Long.decode(text.replaceFirst("L$", ""));
        return text.equals("RingDraughts.NONE") ? RingDraughts.NONE : Integer.parseInt(text);
    }
}
