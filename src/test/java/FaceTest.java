import java.lang.reflect.Executable;
import java.lang.reflect.Field;
import java.lang.reflect.Method;
import java.lang.reflect.Modifier;
import java.util.Arrays;
import java.util.Set;
import java.util.TreeSet;
import java.util.stream.Collectors;
import java.util.stream.Stream;

/** The public face of the document, no more and no less, and the rules of LANGUAGE.md that reflection can see. */
final class FaceTest {
    private static final String INDEX = " throws IndexOutOfBoundsException";
    private static final String ARGUMENT = " throws IllegalArgumentException";
    private static final String NONE = " throws NoSuchElementException";
    private static final String[] FACE = {
        "int addLevel(int, int, int, int) throws IllegalArgumentException, IllegalStateException",
        "int levelCount()",
        "int depthOf(int)" + INDEX,
        "int setFan(int)" + ARGUMENT,
        "boolean setDoor(int, boolean)" + INDEX,
        "int airOf(int)" + INDEX,
        "int airByPaths(int)" + INDEX,
        "int setLimit(int)" + ARGUMENT,
        "int gasOf(int)" + INDEX,
        "int gasShare(int)" + INDEX,
        "boolean isAlarm(int)" + INDEX,
        "int gasTotal()",
        "int ventedTotal()",
        "double meanShare() throws ArithmeticException",
        "int minutesToAlarm(int)" + INDEX + ", NoSuchElementException",
        "int hire(int)" + ARGUMENT + ", IllegalStateException",
        "int peopleAt(int)" + INDEX,
        "int peopleTotal()",
        "int endangered()",
        "int oreAt(int)" + INDEX,
        "int blast(int, int)" + INDEX
            + ", IllegalArgumentException, IllegalStateException, UnsupportedOperationException",
        "boolean isClosed(int)" + INDEX,
        "int setSpeed(int)" + ARGUMENT,
        "int sendDown(int, int)" + INDEX
            + ", IllegalArgumentException, UnsupportedOperationException, IllegalStateException",
        "int callUp(int, int)" + INDEX + ", IllegalArgumentException, IllegalStateException",
        "int hoistOre(int)" + INDEX + ", IllegalStateException",
        "int cancel(int)" + NONE,
        "int waitingCount()",
        "int waitingAt(int)" + INDEX,
        "int pass(int)" + ARGUMENT + ", IllegalStateException",
        "int clock()",
        "char tripKind()",
        "int tripLevel()" + NONE,
        "int tripLoad()" + NONE,
        "int tripRest()" + NONE,
        "int cageLevel()",
        "int doneCount()",
        "int droppedCount()",
        "int waitFor(int)" + NONE + ", UnsupportedOperationException",
        "boolean isConsistent()",
        "int writeTrip()",
        "char lineAt(int)" + INDEX,
    };

    /** What a constant may be, but for those of an enum, of which there is none. */
    private static final Set<Class<?>> CONSTANTS = Set.of(int.class, long.class, boolean.class, char.class,
            String.class, int[].class, long[].class, char[].class, byte[].class);

    public static void main(String[] args) {
        Class<?> face = MineHoist.class;
        Set<String> names = new TreeSet<>();
        Set<String> told = new TreeSet<>();
        for (Method method : face.getDeclaredMethods()) {
            if (!Modifier.isPrivate(method.getModifiers())) {
                names.add(method.getName());
                told.add(described(method));
            }
        }
        Check.due("the methods of the face", new TreeSet<>(Arrays.asList(FACE)), told);
        Check.due("the class", Modifier.PUBLIC | Modifier.FINAL, face.getModifiers());
        Check.due("the constructors", "[public MineHoist()]", Arrays.toString(face.getConstructors()));
        Check.due("all constructors", 1, face.getDeclaredConstructors().length);
        for (Field field : face.getDeclaredFields()) {
            Check.due(field + " is private", true, Modifier.isPrivate(field.getModifiers()));
        }
        check(face, names);
        for (Class<?> inside : face.getDeclaredClasses()) {
            Check.due(inside + " is static", true, Modifier.isStatic(inside.getModifiers()));
            check(inside, names);
        }
        Check.due("at most 12 classes", true, face.getDeclaredClasses().length < 12);
        Check.end("FaceTest");
    }

    private static void check(Class<?> type, Set<String> names) {
        int fields = 0;
        for (Field field : type.getDeclaredFields()) {
            boolean isStatic = Modifier.isStatic(field.getModifiers());
            Check.due(field + " is final or of an object", true, !isStatic || Modifier.isFinal(field.getModifiers()));
            Check.due("the type of " + field + " is listed", true, isListed(field.getType(), isStatic));
            fields += isStatic ? 0 : 1;
        }
        Check.due("at most 20 fields in " + type, true, fields <= 20);
        for (Method method : type.getDeclaredMethods()) {
            boolean isOfFace = type == MineHoist.class && Modifier.isPublic(method.getModifiers());
            Check.due("the name of " + method + " is its own", true, isOfFace || !names.contains(method.getName()));
        }
        Stream<Executable> all = Stream.concat(Arrays.stream(type.getDeclaredMethods()),
                Arrays.stream(type.getDeclaredConstructors()));
        Check.due("at most 7 parameters in " + type, true, all.allMatch(e -> e.getParameterCount() <= 7));
    }

    private static boolean isListed(Class<?> type, boolean isStatic) {
        if (isStatic) {
            return CONSTANTS.contains(type);
        }
        Class<?> part = type.isArray() ? type.getComponentType() : type;
        boolean isOwn = part.getName().startsWith("MineHoist");
        return part.isPrimitive() || isOwn || type == String.class || type == StringBuilder.class;
    }

    private static String described(Method method) {
        String name = method.getReturnType() + " " + method.getName() + "(" + names(method.getParameterTypes()) + ")";
        String thrown = names(method.getExceptionTypes());
        return thrown.isEmpty() ? name : name + " throws " + thrown;
    }

    private static String names(Class<?>[] types) {
        return Arrays.stream(types).map(Class::getSimpleName).collect(Collectors.joining(", "));
    }
}
