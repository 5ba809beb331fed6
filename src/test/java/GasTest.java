import java.util.Map;
import java.util.NoSuchElementException;

/** Promises 9 to 16: gas. */
final class GasTest {
    public static void main(String[] args) {
        promise9SetLimit();
        promise10GasOf();
        promise10MoreAirThanSize();
        promise11GasShare();
        promise12IsAlarm();
        promises13And14Totals();
        promise15MeanShare();
        promise16MinutesToAlarm();
        promise16LooksAheadOnly();
        refusedLevels();
        Check.end("GasTest");
    }

    private static MineHoist one(int size, int inflow, int fan) {
        MineHoist x = new MineHoist();
        x.addLevel(100, size, 1, inflow);
        x.setFan(fan);
        return x;
    }

    private static void promise9SetLimit() {
        MineHoist x = Scenes.gassy();
        Check.due("setLimit, first", 20, x.setLimit(1));
        Check.due("setLimit, second", 1, x.setLimit(1000));
        Check.due("setLimit, third", 1000, x.setLimit(1000));
        for (int limit : new int[] {0, -1, 1001, Integer.MIN_VALUE, Integer.MAX_VALUE}) {
            Check.refused("setLimit(" + limit + ")", IllegalArgumentException.class, Scenes::gassy,
                    m -> m.setLimit(limit));
        }
    }

    /** The inflow first, then half of the gas is taken, rounded down: 5-2, 8-4, 9-4, 10-5. */
    private static void promise10GasOf() {
        MineHoist x = one(50, 5, 25);
        int[] gas = {3, 4, 5, 5};
        for (int due : gas) {
            x.pass(1);
            Check.due("gasOf after minute " + x.clock(), due, x.gasOf(1));
        }
        MineHoist y = one(50, 5, 25);
        y.pass(3);
        Check.due("gasOf after 3 minutes at once", 5, y.gasOf(1));
        MineHoist z = one(50, 5, 0);
        z.pass(60);
        Check.due("gasOf without air", 300, z.gasOf(1));
        Check.due("gasShare above a thousand", 6000, z.gasShare(1));
        z.setFan(50);
        z.pass(1);
        Check.due("gasOf with as much air as the size", 0, z.gasOf(1));
        MineHoist least = one(1, 2, 0);
        least.pass(1);
        Check.due("gasOf of the least size", 2, least.gasOf(1));
        Check.due("gasShare of the least size", 2000, least.gasShare(1));
        least.setFan(1);
        least.pass(1);
        Check.due("gasOf of the least size with air", 0, least.gasOf(1));
        MineHoist far = one(500, 50, 0);
        for (int i = 0; i < 80; i++) {
            far.pass(60);
        }
        far.setFan(499);
        far.pass(1);
        Check.due("gasOf of much gas", 481, far.gasOf(1));
    }

    private static void promise10MoreAirThanSize() {
        MineHoist x = one(10, 50, 1000);
        x.pass(1);
        Check.due("gasOf with more air than size", 0, x.gasOf(1));
        Check.due("ventedTotal with more air than size", 50, x.ventedTotal());
        Check.due("gasTotal", 50, x.gasTotal());
        MineHoist y = one(10, 50, 9);
        y.pass(1);
        Check.due("gasOf with a unit less than the size", 5, y.gasOf(1));
    }

    private static void promise11GasShare() {
        MineHoist x = one(3, 1, 0);
        int[] shares = {333, 666, 1000, 1333};
        Check.due("gasShare at first", 0, x.gasShare(1));
        for (int due : shares) {
            x.pass(1);
            Check.due("gasShare after minute " + x.clock(), due, x.gasShare(1));
        }
    }

    private static void promise12IsAlarm() {
        MineHoist x = one(50, 1, 0);
        Check.due("isAlarm without gas", false, x.isAlarm(1));
        x.pass(1);
        Check.due("isAlarm, share 20, limit 20", true, x.isAlarm(1));
        x.setLimit(21);
        Check.due("isAlarm, share 20, limit 21", false, x.isAlarm(1));
        x.setLimit(19);
        Check.due("isAlarm, share 20, limit 19", true, x.isAlarm(1));
        MineHoist y = one(51, 1, 0);
        y.pass(1);
        Check.due("isAlarm, share 19, limit 20", false, y.isAlarm(1));
        MineHoist z = Scenes.quiet();
        z.blast(2, 1);
        Check.due("isAlarm after a blast", true, z.isAlarm(2));
        Check.due("isAlarm on another level", false, z.isAlarm(1));
    }

    /** In the first minute 2 * 75 / 100 is 1 and 5 * 25 / 50 is 2. */
    private static void promises13And14Totals() {
        MineHoist x = Scenes.gassy();
        x.pass(1);
        Check.due("gasTotal after a minute", 7, x.gasTotal());
        Check.due("ventedTotal after a minute", 3, x.ventedTotal());
        Check.due("gasOf(1) after a minute", 1, x.gasOf(1));
        Check.due("gasOf(2) after a minute", 3, x.gasOf(2));
        x.blast(1, 20);
        Check.due("gasTotal after a blast", 107, x.gasTotal());
        Check.due("ventedTotal after a blast", 3, x.ventedTotal());
        x.setFan(0);
        x.pass(10);
        Check.due("gasTotal 10 minutes later", 177, x.gasTotal());
        Check.due("ventedTotal without a fan", 3, x.ventedTotal());
        Check.due("isConsistent", true, x.isConsistent());
    }

    private static void promise15MeanShare() {
        Check.refused("meanShare without levels", ArithmeticException.class, Scenes::empty, MineHoist::meanShare);
        MineHoist x = new MineHoist();
        x.setFan(0);
        x.addLevel(100, 3, 1, 1);
        x.addLevel(200, 3, 1, 0);
        Check.due("meanShare at first", 0.0, x.meanShare());
        x.pass(1);
        Check.due("meanShare of 333 and 0", 166.5, x.meanShare());
        MineHoist y = new MineHoist();
        y.setFan(0);
        y.addLevel(100, 3, 1, 1);
        y.addLevel(200, 3, 1, 1);
        y.addLevel(300, 500, 1, 1);
        y.pass(1);
        Check.due("meanShare of 333, 333 and 2", 668.0 / 3.0, y.meanShare());
    }

    private static void promise16MinutesToAlarm() {
        MineHoist x = one(500, 1, 0);
        x.setLimit(1000);
        Check.due("minutesToAlarm of 500 minutes", 500, x.minutesToAlarm(1));
        x.setLimit(998);
        Check.due("minutesToAlarm of 499 minutes", 499, x.minutesToAlarm(1));
        x.setLimit(1);
        Check.due("minutesToAlarm of a minute", 1, x.minutesToAlarm(1));
        x.pass(1);
        Check.due("minutesToAlarm with an alarm", 0, x.minutesToAlarm(1));
        x.setLimit(1000);
        Check.due("minutesToAlarm a minute later", 499, x.minutesToAlarm(1));
        Check.refused("minutesToAlarm without inflow", NoSuchElementException.class, Scenes::quiet,
                m -> m.minutesToAlarm(1));
        Check.refused("minutesToAlarm with too much air", NoSuchElementException.class, () -> {
            MineHoist m = one(500, 1, 1);
            m.setLimit(1000);
            return m;
        }, m -> m.minutesToAlarm(1));
        MineHoist y = Scenes.quiet();
        y.blast(3, 1);
        Check.due("minutesToAlarm after a blast", 0, y.minutesToAlarm(3));
        MineHoist z = Scenes.gassy();
        z.setDoor(2, false);
        z.setLimit(500);
        Check.due("minutesToAlarm behind a closed door", 5, z.minutesToAlarm(2));
    }

    private static void promise16LooksAheadOnly() {
        MineHoist x = Scenes.alarmed();
        Map<String, String> before = Snapshot.facts(x);
        Check.due("minutesToAlarm(1)", 1, x.minutesToAlarm(1));
        Check.same("what minutesToAlarm changes", before, Snapshot.facts(x));
        for (int limit : new int[] {20, 100, 300, 700}) {
            MineHoist y = Scenes.gassy();
            y.setFan(20);
            y.setLimit(limit);
            int minutes = y.minutesToAlarm(2);
            for (int passed = 0; passed < minutes; passed++) {
                Check.due("isAlarm, limit " + limit + ", after " + passed, false, y.isAlarm(2));
                y.pass(1);
            }
            Check.due("isAlarm, limit " + limit + ", after " + minutes, true, y.isAlarm(2));
        }
    }

    private static void refusedLevels() {
        for (int level : new int[] {-1, 0, 3, 6, 7, Integer.MIN_VALUE, Integer.MAX_VALUE}) {
            Check.refused("gasOf(" + level + ")", IndexOutOfBoundsException.class, Scenes::gassy,
                    m -> m.gasOf(level));
            Check.refused("gasShare(" + level + ")", IndexOutOfBoundsException.class, Scenes::gassy,
                    m -> m.gasShare(level));
            Check.refused("isAlarm(" + level + ")", IndexOutOfBoundsException.class, Scenes::gassy,
                    m -> m.isAlarm(level));
            Check.refused("minutesToAlarm(" + level + ")", IndexOutOfBoundsException.class, Scenes::gassy,
                    m -> m.minutesToAlarm(level));
        }
    }
}
