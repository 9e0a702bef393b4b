import java.lang.reflect.Constructor;
import java.lang.reflect.Field;
import java.lang.reflect.Member;
import java.lang.reflect.Method;
import java.lang.reflect.Modifier;
import java.util.ArrayList;
import java.util.Arrays;
import java.util.List;
import java.util.TreeSet;
import java.util.regex.Matcher;
import java.util.regex.Pattern;

/** The public face as the document writes it, and that the class shows nothing besides. */
final class FaceTest {
    private static final Pattern METHOD = Pattern.compile("public int (\\w+)\\(([^)]*)\\);");
    private static final Pattern CONSTANT = Pattern.compile("(\\w+) = (-?\\d+)");
    private static final int MOST_CLASSES = 12, MOST_FIELDS = 20, MOST_PARAMETERS = 7;

    private FaceTest() {
    }

    static void run() {
        methodsAreThoseOfTheDocument();
        constantsAreThoseOfTheDocument();
        constructorIsPublic();
        nothingElseCanBeSeen();
        namesAreNotUsedTwice();
        classesAreSmall();
    }

    private static void methodsAreThoseOfTheDocument() {
        TreeSet<String> due = new TreeSet<>();
        for (String line : Document.face()) {
            Matcher matcher = METHOD.matcher(line);
            if (matcher.find()) due.add("int " + matcher.group(1) + "(" + matcher.group(2).replaceAll(" \\w+(,|$)", "$1") + ")");
        }
        TreeSet<String> got = new TreeSet<>();
        for (Method method : RingDraughts.class.getDeclaredMethods()) {
            if (!Modifier.isPublic(method.getModifiers())) continue;
            List<String> types = new ArrayList<>();
            for (Class<?> type : method.getParameterTypes()) types.add(type.getName());
            got.add(method.getReturnType().getName() + " " + method.getName() + "(" + String.join(", ", types) + ")");
            Check.due(method.getName() + " is of an object", Check.oneIf(!Modifier.isStatic(method.getModifiers())), 1);
        }
        Check.due("methods of the document's face", due.size(), 22);
        Check.same("the methods", String.join("; ", got), String.join("; ", due));
    }

    private static void constantsAreThoseOfTheDocument() {
        TreeSet<String> due = new TreeSet<>();
        for (String line : Document.face()) {
            if (!line.contains("public static final int ")) continue;
            Matcher matcher = CONSTANT.matcher(line);
            while (matcher.find()) due.add(matcher.group(1) + " = " + matcher.group(2));
        }
        TreeSet<String> got = new TreeSet<>();
        for (Field field : RingDraughts.class.getFields()) {
            int modifiers = field.getModifiers();
            boolean isConstant = Modifier.isStatic(modifiers) && Modifier.isFinal(modifiers) && field.getType() == int.class;
            Check.due(field.getName() + " is a constant", Check.oneIf(isConstant), 1);
            try {
                got.add(field.getName() + " = " + field.getInt(null));
            } catch (IllegalAccessException e) {
                Check.due(field.getName() + " can be read", 0, 1);
            }
        }
        Check.due("constants of the document's face", due.size(), 6);
        Check.same("the constants", String.join("; ", got), String.join("; ", due));
    }

    private static void constructorIsPublic() {
        Constructor<?>[] constructors = RingDraughts.class.getDeclaredConstructors();
        Check.due("constructors", constructors.length, 1);
        Check.due("its parameters", constructors[0].getParameterCount(), 0);
        Check.due("it is public", Check.oneIf(Modifier.isPublic(constructors[0].getModifiers())), 1);
        int modifiers = RingDraughts.class.getModifiers();
        Check.due("the class is public and final", Check.oneIf(Modifier.isPublic(modifiers) && Modifier.isFinal(modifiers)), 1);
        Check.due("it is of nothing else", Check.oneIf(RingDraughts.class.getSuperclass() == Object.class), 1);
        Check.due("its interfaces", RingDraughts.class.getInterfaces().length, 0);
    }

    private static void nothingElseCanBeSeen() {
        List<Member> members = new ArrayList<>(Arrays.asList(RingDraughts.class.getDeclaredMethods()));
        members.addAll(Arrays.asList(RingDraughts.class.getDeclaredFields()));
        for (Member member : members) {
            boolean isHidden = Modifier.isPrivate(member.getModifiers());
            boolean isOfFace = Modifier.isPublic(member.getModifiers());
            Check.due(member.getName() + " is of the face or private", Check.oneIf(isHidden || isOfFace || member.isSynthetic()), 1);
        }
        for (Class<?> inside : RingDraughts.class.getDeclaredClasses()) {
            int modifiers = inside.getModifiers();
            boolean isShown = Modifier.isPublic(modifiers) || Modifier.isProtected(modifiers);
            Check.due(inside.getName() + " is static and not shown", Check.oneIf(Modifier.isStatic(modifiers) && !isShown), 1);
        }
    }

    private static void namesAreNotUsedTwice() {
        TreeSet<String> names = new TreeSet<>();
        for (Method method : RingDraughts.class.getMethods()) names.add(method.getName());
        for (Method method : RingDraughts.class.getDeclaredMethods()) {
            if (Modifier.isPublic(method.getModifiers())) continue;
            Check.due("a private " + method.getName() + " beside a public one", Check.oneIf(names.contains(method.getName())), 0);
        }
    }

    private static void classesAreSmall() {
        List<Class<?>> classes = new ArrayList<>(Arrays.asList(RingDraughts.class.getDeclaredClasses()));
        classes.add(RingDraughts.class);
        Check.due("classes", Check.oneIf(classes.size() <= MOST_CLASSES), 1);
        for (Class<?> one : classes) {
            int fields = 0;
            for (Field field : one.getDeclaredFields()) {
                boolean isStatic = Modifier.isStatic(field.getModifiers());
                if (!isStatic) fields++;
                Check.due("a static " + field.getName() + " that is not final",
                    Check.oneIf(isStatic && !Modifier.isFinal(field.getModifiers())), 0);
            }
            Check.due("fields of " + one.getName(), Check.oneIf(fields <= MOST_FIELDS), 1);
            for (Method method : one.getDeclaredMethods()) {
                Check.due("parameters of " + method.getName(), Check.oneIf(method.getParameterCount() <= MOST_PARAMETERS), 1);
            }
        }
    }
}
