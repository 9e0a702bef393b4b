import java.io.IOException;
import java.lang.reflect.Array;
import java.lang.reflect.Field;
import java.lang.reflect.Modifier;
import java.nio.file.Files;
import java.nio.file.Path;
import java.util.ArrayDeque;
import java.util.Collections;
import java.util.IdentityHashMap;
import java.util.Random;
import java.util.Set;

/** The room that an object takes: its rows are made once and used again, also behind 512 calls. */
final class RoomTest {
    private static final int MOST_OBJECTS = 200, MOST_FIELDS = 10000, CALLS = 512;

    private RoomTest() {
    }

    static void run() {
        objectsAreMadeOnceAlone();
        RingDraughts x = new RingDraughts();
        checkRoom("a new object", x);
        useAll(x);
        checkRoom("behind 512 calls", x);
    }

    /** Nothing but a state that is kept for the first time in its place is made behind the constructor. */
    private static void objectsAreMadeOnceAlone() {
        String source;
        try {
            source = Files.readString(Path.of("src/main/java/RingDraughts.java"));
        } catch (IOException e) {
            Check.due("the source, which can't be read: " + e.getMessage(), 0, 1);
            return;
        }
        for (String line : source.split("\n")) {
            String code = line.trim().replaceFirst("^(\\*|//|/\\*).*", "");
            if (!code.matches(".*\\bnew\\b.*")) continue;
            boolean isField = code.matches("(private )?(static )?final [\\w\\[\\]]+ \\w+ = new .*;");
            boolean isState = code.equals("saved = new Game();") || code.equals("state = new Game();");
            Check.due("made within a call: " + code, Check.oneIf(isField || isState), 1);
        }
    }

    /** Each call that there is, often, so that all that can be kept is kept. */
    private static void useAll(RingDraughts x) {
        Random random = new Random(1);
        for (int call = 0; call < CALLS; call++) {
            int i = random.nextInt(48);
            switch (call % 16) {
                case 0: x.set(i, random.nextInt(4)); break;
                case 1: x.rows(3); break;
                case 2: x.worth(2); break;
                case 3: x.best(2); break;
                case 4: x.save(i % 2); break;
                case 5: x.restore(i % 2); break;
                case 6: x.put(Check.characters("12-18,30")); break;
                case 7: x.playAll(); break;
                case 8: x.square(i, i % 5); break;
                case 9: x.ofHop(0, 6); break;
                case 10: if (i < 4) x.begin(i == 0); else x.turn(i % 2); break;
                case 11: if (i < 12) x.undo(); else x.clock(600 + i); break;
                default: x.hop(i % Math.max(1, x.count(2)), 1); break;
            }
        }
    }

    private static void checkRoom(String when, RingDraughts x) {
        Set<Object> seen = Collections.newSetFromMap(new IdentityHashMap<>());
        ArrayDeque<Object> left = new ArrayDeque<>();
        left.add(x);
        long fields = 0;
        while (!left.isEmpty()) {
            Object one = left.remove();
            if (!seen.add(one)) continue;
            fields += one.getClass().isArray() ? lookIntoArray(one, left) : lookIntoObject(one, left);
        }
        Check.due(when + ": objects, " + seen.size(), Check.oneIf(seen.size() <= MOST_OBJECTS), 1);
        Check.due(when + ": fields and elements, " + fields, Check.oneIf(fields <= MOST_FIELDS), 1);
    }

    private static int lookIntoArray(Object array, ArrayDeque<Object> left) {
        int length = Array.getLength(array);
        if (array.getClass().getComponentType().isPrimitive()) return length;
        for (int i = 0; i < length; i++) if (Array.get(array, i) != null) left.add(Array.get(array, i));
        return length;
    }

    private static int lookIntoObject(Object one, ArrayDeque<Object> left) {
        int fields = 0;
        for (Field field : one.getClass().getDeclaredFields()) {
            if (Modifier.isStatic(field.getModifiers())) continue;
            fields++;
            if (field.getType().isPrimitive()) continue;
            try {
                field.setAccessible(true);
                Object value = field.get(one);
                if (value != null) left.add(value);
            } catch (IllegalAccessException e) {
                Check.due(field.getName() + " can be read", 0, 1);
            }
        }
        return fields;
    }
}
