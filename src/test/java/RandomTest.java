import java.lang.reflect.InvocationTargetException;
import java.lang.reflect.Method;
import java.util.ArrayList;
import java.util.Arrays;
import java.util.Comparator;
import java.util.List;
import java.util.Map;
import java.util.Random;
import java.util.TreeMap;

/** The same runs of calls on MineHoist and on PlainMine; a fixed seed, so that each run of the test is the same. */
final class RandomTest {
    private static final int RUNS = 1500;
    private static final int CALLS = 512;
    private static final int[] FAR = {Integer.MIN_VALUE, -1000, -1, 0, 1, 2, 7, 8, 13, 61, 100, 1001,
        Integer.MAX_VALUE};

    private final Random random;
    private final List<Method> methods = new ArrayList<>();
    private final Map<String, Method> others = new TreeMap<>();
    private final Map<String, Integer> seen = new TreeMap<>();
    /** Whether the clock of the present run comes to its end. */
    private boolean isLong;

    private RandomTest(long seed) throws ReflectiveOperationException {
        random = new Random(seed);
        for (Method method : MineHoist.class.getDeclaredMethods()) {
            if (java.lang.reflect.Modifier.isPublic(method.getModifiers())) {
                methods.add(method);
                others.put(method.getName(), PlainMine.class.getMethod(method.getName(), method.getParameterTypes()));
            }
        }
        methods.sort(Comparator.comparing(Method::getName));
    }

    public static void main(String[] args) throws ReflectiveOperationException {
        RandomTest test = new RandomTest(20261119);
        for (int run = 0; run < RUNS; run++) {
            if (!test.agrees(run)) {
                System.exit(1);
            }
        }
        if (args.length > 1) {
            System.out.println(test.seen);
        }
        System.out.println("RandomTest: " + RUNS + " runs, " + test.seen.size() + " kinds of answers, all agree");
    }

    private boolean agrees(int run) throws ReflectiveOperationException {
        MineHoist mine = new MineHoist();
        PlainMine plain = new PlainMine();
        List<String> calls = new ArrayList<>();
        int levels = random.nextInt(7);
        boolean isCalm = random.nextBoolean();
        isLong = run % 10 == 1;
        for (int i = 0; i < CALLS; i++) {
            Method method = chosen(i, levels, run);
            Object[] arguments = arguments(method, plain, isCalm);
            String got = answer(method, mine, arguments);
            String due = answer(others.get(method.getName()), plain, arguments);
            calls.add(method.getName() + Arrays.toString(arguments) + " -> " + got);
            count(method, got);
            if (!got.equals(due)) {
                System.out.println("run " + run + ", due is " + due + " at the end of\n" + String.join("\n", calls));
                return false;
            }
        }
        return true;
    }

    private void count(Method method, String got) {
        boolean isRefusal = got.endsWith("Exception");
        seen.merge(method.getName() + (isRefusal ? " " + got : ""), 1, Integer::sum);
    }

    /** Levels and people first, then each call as likely as another, but for those that make something happen. */
    private Method chosen(int call, int levels, int run) {
        if (call < levels) {
            return named("addLevel");
        }
        if (call < levels + 3) {
            return named(new String[] {"hire", "setLimit", "setFan"}[call - levels]);
        }
        int roll = random.nextInt(10);
        if ((isLong || run % 3 == 0) && roll < 4 || roll < 1) {
            return named("pass");
        }
        if (roll < 6) {
            String[] busy = {"sendDown", "sendDown", "callUp", "hoistOre", "blast", "waitFor", "setFan", "writeTrip"};
            return named(busy[random.nextInt(busy.length)]);
        }
        return methods.get(random.nextInt(methods.size()));
    }

    private Method named(String name) {
        for (Method method : methods) {
            if (method.getName().equals(name)) {
                return method;
            }
        }
        throw new IllegalArgumentException(name);
    }

    private Object[] arguments(Method method, PlainMine mine, boolean isCalm) {
        Class<?>[] types = method.getParameterTypes();
        Object[] arguments = new Object[types.length];
        for (int i = 0; i < types.length; i++) {
            boolean isWild = random.nextInt(30) == 0;
            if (types[i] == boolean.class) {
                arguments[i] = random.nextInt(3) > 0;
            } else {
                arguments[i] = isWild ? FAR[random.nextInt(FAR.length)] : fitting(method.getName(), i, mine, isCalm);
            }
        }
        return arguments;
    }

    private int fitting(String name, int argument, PlainMine mine, boolean isCalm) {
        int level = random.nextInt(mine.levelCount() + 1) + random.nextInt(2);
        switch (name) {
            case "addLevel":
                int above = mine.depthOf(mine.levelCount());
                int[] sized = {above + 1 + random.nextInt(isCalm ? 100 : 500), 1 + random.nextInt(500),
                    1 + random.nextInt(20), random.nextInt(isCalm ? 3 : 51)};
                return sized[argument];
            case "setFan":
                return random.nextInt(isCalm ? 1001 : 100);
            case "setLimit":
                return isCalm ? 1 + random.nextInt(1000) : 1 + random.nextInt(60);
            case "setSpeed":
                return 9 + random.nextInt(random.nextBoolean() ? 20 : 493);
            case "hire":
                return 1 + random.nextInt(isCalm ? 30 : 99);
            case "pass":
                return 1 + random.nextInt(isLong || random.nextInt(4) == 0 ? 60 : 5);
            case "waitingAt":
                return random.nextInt(10);
            case "lineAt":
                return random.nextInt(22);
            case "cancel":
            case "waitFor":
                int waiting = mine.waitingCount();
                return waiting > 0 && random.nextInt(4) > 0
                        ? mine.waitingAt(random.nextInt(waiting)) : random.nextInt(60) - 1;
            default:
                return argument == 0 ? level : 1 + random.nextInt(name.equals("blast") ? 20 : 12);
        }
    }

    private static String answer(Method method, Object mine, Object[] arguments) throws ReflectiveOperationException {
        try {
            return String.valueOf(method.invoke(mine, arguments));
        } catch (InvocationTargetException e) {
            Throwable cause = e.getCause();
            boolean isIndex = cause instanceof IndexOutOfBoundsException && mine instanceof PlainMine;
            return isIndex ? "IndexOutOfBoundsException" : cause.getClass().getSimpleName();
        }
    }
}
