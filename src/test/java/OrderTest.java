import java.util.NoSuchElementException;
import java.util.function.Supplier;

/**
 * "If several exceptions apply, the one that is documented first is thrown": each two (or more) that can apply at once.
 * "A method that throws an exception changes nothing": Check.refused looks at all that can be seen, here and wherever
 * a test refuses a call.
 */
final class OrderTest {
    private static final Class<IndexOutOfBoundsException> INDEX = IndexOutOfBoundsException.class;
    private static final Class<IllegalArgumentException> ARGUMENT = IllegalArgumentException.class;
    private static final Class<IllegalStateException> STATE = IllegalStateException.class;
    private static final Class<UnsupportedOperationException> UNSUPPORTED = UnsupportedOperationException.class;

    private static final int[] NO_LEVEL = {-1, 0, 7, Integer.MIN_VALUE, Integer.MAX_VALUE};

    public static void main(String[] args) {
        promise2ArgumentBeforeState();
        promise16IndexBeforeNever();
        promise17ArgumentBeforeState();
        promise22IndexBeforeArgument();
        promise22ArgumentBeforeStateAndUnsupported();
        promise22StateBeforeUnsupported();
        promise25IndexBeforeAll();
        promise25ArgumentBeforeUnsupportedAndState();
        promise25UnsupportedBeforeState();
        promise26IndexBeforeArgumentBeforeState();
        promise27IndexBeforeState();
        promise31ArgumentBeforeState();
        promise40NoSuchBeforeUnsupported();
        callsAfterARefusal();
        Check.end("OrderTest");
    }

    private static void promise2ArgumentBeforeState() {
        Supplier<MineHoist> sixAfterAMinute = () -> {
            MineHoist x = Scenes.six();
            x.pass(1);
            return x;
        };
        int[][] bad = {{9, 1, 1, 0}, {2001, 1, 1, 0}, {600, 1, 1, 0}, {599, 1, 1, 0}, {700, 0, 1, 0},
            {700, 501, 1, 0}, {700, 1, 0, 0}, {700, 1, 21, 0}, {700, 1, 1, -1}, {700, 1, 1, 51}};
        for (int[] b : bad) {
            String what = "addLevel(" + b[0] + ", " + b[1] + ", " + b[2] + ", " + b[3] + ")";
            Check.refused(what + " at 6 levels", ARGUMENT, Scenes::six, m -> m.addLevel(b[0], b[1], b[2], b[3]));
            Check.refused(what + " at 6 levels after a minute", ARGUMENT, sixAfterAMinute,
                    m -> m.addLevel(b[0], b[1], b[2], b[3]));
        }
        int[][] badOfThree = {{9, 1, 1, 0}, {2001, 1, 1, 0}, {310, 1, 1, 0}, {309, 1, 1, 0}, {311, 0, 1, 0},
            {311, 501, 1, 0}, {311, 1, 0, 0}, {311, 1, 21, 0}, {311, 1, 1, -1}, {311, 1, 1, 51}};
        for (int[] b : badOfThree) {
            Check.refused("addLevel(" + b[0] + ", " + b[1] + ", " + b[2] + ", " + b[3] + ") after a minute", ARGUMENT,
                    Scenes::goingDown, m -> m.addLevel(b[0], b[1], b[2], b[3]));
        }
        Check.refused("addLevel in range at 6 levels", STATE, Scenes::six, m -> m.addLevel(601, 1, 1, 0));
        Check.refused("addLevel in range after a minute", STATE, Scenes::goingDown, m -> m.addLevel(311, 1, 1, 0));
        Check.refused("addLevel in range at both", STATE, sixAfterAMinute, m -> m.addLevel(601, 1, 1, 0));
    }

    private static void promise16IndexBeforeNever() {
        for (int level : NO_LEVEL) {
            Check.refused("minutesToAlarm(" + level + ") where no alarm ever comes", INDEX, Scenes::quiet,
                    m -> m.minutesToAlarm(level));
        }
        Check.refused("minutesToAlarm(3) where no alarm ever comes", NoSuchElementException.class, Scenes::quiet,
                m -> m.minutesToAlarm(3));
    }

    private static void promise17ArgumentBeforeState() {
        for (int count : new int[] {-1, 0, 100, Integer.MIN_VALUE, Integer.MAX_VALUE}) {
            Check.refused("hire(" + count + ") at 200", ARGUMENT, Scenes::full, m -> m.hire(count));
        }
        for (int count : new int[] {1, 99}) {
            Check.refused("hire(" + count + ") at 200", STATE, Scenes::full, m -> m.hire(count));
        }
    }

    private static void promise22IndexBeforeArgument() {
        for (int level : NO_LEVEL) {
            for (int charge : new int[] {0, 21, Integer.MIN_VALUE, Integer.MAX_VALUE}) {
                Check.refused("blast(" + level + ", " + charge + ")", INDEX, Scenes::blasted,
                        m -> m.blast(level, charge));
            }
        }
    }

    private static void promise22ArgumentBeforeStateAndUnsupported() {
        for (int charge : new int[] {0, 21, Integer.MIN_VALUE, Integer.MAX_VALUE}) {
            Check.refused("blast(1, " + charge + ") of a closed level", ARGUMENT, Scenes::blasted,
                    m -> m.blast(1, charge));
            Check.refused("blast(2, " + charge + ") with people there", ARGUMENT, Scenes::peopleBelow,
                    m -> m.blast(2, charge));
            Check.refused("blast(2, " + charge + ") with a trip there", ARGUMENT, Scenes::goingDown,
                    m -> m.blast(2, charge));
            Check.refused("blast(1, " + charge + ") of a closed level with a trip there", ARGUMENT,
                    OrderTest::oreFromClosedLevel, m -> m.blast(1, charge));
        }
    }

    /** Level 1 is closed, and ore of it is on its way up. */
    private static MineHoist oreFromClosedLevel() {
        MineHoist x = Scenes.blasted();
        x.hoistOre(1);
        x.pass(1);
        return x;
    }

    private static void promise22StateBeforeUnsupported() {
        Check.refused("blast(1, 1) of a closed level with a trip there", STATE, OrderTest::oreFromClosedLevel,
                m -> m.blast(1, 1));
    }

    private static void promise25IndexBeforeAll() {
        for (int level : NO_LEVEL) {
            for (int count : new int[] {0, 1, 13, Integer.MIN_VALUE, Integer.MAX_VALUE}) {
                Check.refused("sendDown(" + level + ", " + count + ") with 8 waiting", INDEX, Scenes::crowded,
                        m -> m.sendDown(level, count));
            }
        }
    }

    private static void promise25ArgumentBeforeUnsupportedAndState() {
        for (int count : new int[] {0, 13, Integer.MIN_VALUE, Integer.MAX_VALUE}) {
            Check.refused("sendDown(1, " + count + ") with 8 waiting", ARGUMENT, Scenes::crowded,
                    m -> m.sendDown(1, count));
            Check.refused("sendDown(1, " + count + ") to a closed level", ARGUMENT, Scenes::blasted,
                    m -> m.sendDown(1, count));
            Check.refused("sendDown(1, " + count + ") to a level with an alarm", ARGUMENT, OrderTest::justAlarm,
                    m -> m.sendDown(1, count));
            Check.refused("sendDown(1, " + count + ") with all of that", ARGUMENT, () -> crowded(true, true),
                    m -> m.sendDown(1, count));
        }
    }

    /** Level 1 has an alarm and is not closed. */
    private static MineHoist justAlarm() {
        MineHoist x = Scenes.quiet();
        x.setFan(0);
        x.blast(1, 1);
        x.pass(30);
        return x;
    }

    /** 8 requests to level 2 wait, and level 1 is closed after a blast, or has an alarm after it, or both. */
    private static MineHoist crowded(boolean isClosed, boolean hasAlarm) {
        MineHoist x = Scenes.quiet();
        x.setFan(0);
        x.setLimit(hasAlarm ? 20 : 1000);
        x.blast(1, 1);
        if (!isClosed) {
            x.pass(30);
        }
        for (int i = 0; i < 8; i++) {
            x.sendDown(2, 1);
        }
        return x;
    }

    private static void promise25UnsupportedBeforeState() {
        Check.refused("sendDown to a level with an alarm", UNSUPPORTED, OrderTest::justAlarm, m -> m.sendDown(1, 1));
        Check.refused("sendDown to a closed level", UNSUPPORTED, Scenes::blasted, m -> m.sendDown(1, 1));
        Check.refused("sendDown to a level with an alarm, 8 waiting", UNSUPPORTED, () -> crowded(false, true),
                m -> m.sendDown(1, 1));
        Check.refused("sendDown to a closed level, 8 waiting", UNSUPPORTED, () -> crowded(true, false),
                m -> m.sendDown(1, 1));
        Check.refused("sendDown to a closed level with an alarm, 8 waiting", UNSUPPORTED, () -> crowded(true, true),
                m -> m.sendDown(1, 1));
        Check.refused("sendDown to another level, 8 waiting", STATE, () -> crowded(true, true),
                m -> m.sendDown(3, 1));
    }

    private static void promise26IndexBeforeArgumentBeforeState() {
        for (int level : NO_LEVEL) {
            for (int count : new int[] {0, 1, 13, Integer.MIN_VALUE, Integer.MAX_VALUE}) {
                Check.refused("callUp(" + level + ", " + count + ") with 8 waiting", INDEX, Scenes::crowded,
                        m -> m.callUp(level, count));
            }
        }
        for (int count : new int[] {0, 13, Integer.MIN_VALUE, Integer.MAX_VALUE}) {
            Check.refused("callUp(1, " + count + ") with 8 waiting", ARGUMENT, Scenes::crowded,
                    m -> m.callUp(1, count));
        }
        Check.refused("callUp(1, 12) with 8 waiting", STATE, Scenes::crowded, m -> m.callUp(1, 12));
    }

    private static void promise27IndexBeforeState() {
        for (int level : NO_LEVEL) {
            Check.refused("hoistOre(" + level + ") with 8 waiting", INDEX, Scenes::crowded, m -> m.hoistOre(level));
        }
        Check.refused("hoistOre(3) with 8 waiting", STATE, Scenes::crowded, m -> m.hoistOre(3));
    }

    private static void promise31ArgumentBeforeState() {
        for (int minutes : new int[] {-1, 0, 61, Integer.MIN_VALUE, Integer.MAX_VALUE}) {
            Check.refused("pass(" + minutes + ") at 5000", ARGUMENT, () -> Scenes.late(5000), m -> m.pass(minutes));
        }
        for (int minutes : new int[] {1, 60}) {
            Check.refused("pass(" + minutes + ") at 5000", STATE, () -> Scenes.late(5000), m -> m.pass(minutes));
        }
    }

    /** A request that does not wait any more would not get a trip either. */
    private static void promise40NoSuchBeforeUnsupported() {
        Supplier<MineHoist> dropped = () -> {
            MineHoist x = Scenes.quiet();
            x.callUp(1, 1);
            x.callUp(2, 1);
            x.cancel(1);
            x.pass(1);
            return x;
        };
        for (int request : new int[] {-1, 0, 1, 2}) {
            Check.refused("waitFor(" + request + ")", NoSuchElementException.class, dropped, m -> m.waitFor(request));
        }
        Check.refused("waitFor of one that would be dropped", UNSUPPORTED, () -> {
            MineHoist x = Scenes.quiet();
            x.callUp(1, 1);
            return x;
        }, m -> m.waitFor(0));
    }

    /** What was refused can be asked again, and is taken when it is in range or its time has come. */
    private static void callsAfterARefusal() {
        MineHoist x = Scenes.blasted();
        for (int clock = 0; clock < 30; clock++) {
            Check.due("sendDown at " + clock, "UnsupportedOperationException",
                    Check.outcome(x, m -> m.sendDown(1, 1)));
            Check.due("blast at " + clock, "IllegalStateException", Check.outcome(x, m -> m.blast(1, 1)));
            x.pass(1);
        }
        Check.due("the first request that is taken", 0, x.sendDown(1, 1));
        Check.due("the next blast that is taken", 60, x.blast(1, 1));
        Check.due("ore of the two blasts that were taken", 33, x.oreAt(1));
    }
}
