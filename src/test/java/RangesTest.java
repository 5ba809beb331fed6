import java.util.NoSuchElementException;
import java.util.function.Supplier;

/** The edges of each argument with a range: the least and the greatest are taken, the next ones are refused. */
final class RangesTest {
    private interface Call {
        void ask(MineHoist mine, int argument);
    }

    public static void main(String[] args) {
        promise2AddLevel();
        promise2DepthBelowTheLevelAbove();
        promise5SetFan();
        promise9SetLimit();
        promise17Hire();
        promise22Charge();
        promise24SetSpeed();
        promise25SendDown();
        promise26CallUp();
        promise28Cancel();
        promise30WaitingAt();
        promise31Pass();
        promise40WaitFor();
        promise43LineAt();
        Check.end("RangesTest");
    }

    private static void range(String name, Supplier<MineHoist> scene, Call call, int least, int greatest) {
        range(name, scene, call, least, greatest, IllegalArgumentException.class);
    }

    private static void range(String name, Supplier<MineHoist> scene, Call call, int least, int greatest,
            Class<? extends RuntimeException> refusal) {
        for (int argument : new int[] {least, least + (greatest - least) / 2, greatest}) {
            Check.taken(name + ": " + argument, scene.get(), m -> call.ask(m, argument));
        }
        for (int argument : new int[] {least - 1, greatest + 1, -1 - greatest, Integer.MIN_VALUE, Integer.MAX_VALUE}) {
            Check.refused(name + ": " + argument, refusal, scene, m -> call.ask(m, argument));
        }
    }

    /** One argument out of range at a time, the others at their least and at their greatest. */
    private static void promise2AddLevel() {
        range("depth, 10 to 2000", Scenes::empty, (m, depth) -> m.addLevel(depth, 1, 1, 0), 10, 2000);
        range("depth, 10 to 2000", Scenes::empty, (m, depth) -> m.addLevel(depth, 500, 20, 50), 10, 2000);
        range("size, 1 to 500", Scenes::empty, (m, size) -> m.addLevel(10, size, 1, 0), 1, 500);
        range("size, 1 to 500", Scenes::empty, (m, size) -> m.addLevel(2000, size, 20, 50), 1, 500);
        range("width, 1 to 20", Scenes::empty, (m, width) -> m.addLevel(10, 1, width, 0), 1, 20);
        range("width, 1 to 20", Scenes::empty, (m, width) -> m.addLevel(2000, 500, width, 50), 1, 20);
        range("inflow, 0 to 50", Scenes::empty, (m, inflow) -> m.addLevel(10, 1, 1, inflow), 0, 50);
        range("inflow, 0 to 50", Scenes::empty, (m, inflow) -> m.addLevel(2000, 500, 20, inflow), 0, 50);
    }

    /** "or the depth is not greater than that of the level above": the one above, not some other one. */
    private static void promise2DepthBelowTheLevelAbove() {
        range("a depth below 310", Scenes::quiet, (m, depth) -> m.addLevel(depth, 100, 1, 0), 311, 2000);
        range("a depth below 10", () -> {
            MineHoist x = new MineHoist();
            x.addLevel(10, 100, 1, 0);
            return x;
        }, (m, depth) -> m.addLevel(depth, 100, 1, 0), 11, 2000);
        range("a depth below 1999", () -> {
            MineHoist x = new MineHoist();
            x.addLevel(1999, 100, 1, 0);
            return x;
        }, (m, depth) -> m.addLevel(depth, 100, 1, 0), 2000, 2000);
        for (int depth : new int[] {10, 1999, 2000, 2001}) {
            Check.refused("a depth below 2000: " + depth, IllegalArgumentException.class, () -> {
                MineHoist x = new MineHoist();
                x.addLevel(2000, 100, 1, 0);
                return x;
            }, m -> m.addLevel(depth, 100, 1, 0));
        }
    }

    private static void promise5SetFan() {
        range("volume, 0 to 1000", Scenes::gassy, MineHoist::setFan, 0, 1000);
        MineHoist x = new MineHoist();
        x.addLevel(100, 100, 1, 0);
        for (int volume : new int[] {0, 1, 1000}) {
            x.setFan(volume);
            Check.due("airOf of a volume of " + volume, volume, x.airOf(1));
            Check.due("airByPaths of a volume of " + volume, volume, x.airByPaths(1));
            Check.due("the previous volume", volume, x.setFan(volume));
        }
    }

    private static void promise9SetLimit() {
        range("limit, 1 to 1000", Scenes::gassy, MineHoist::setLimit, 1, 1000);
        MineHoist x = new MineHoist();
        x.addLevel(100, 500, 1, 1);
        x.setFan(0);
        x.setLimit(1);
        Check.due("isAlarm, share 0, the least limit", false, x.isAlarm(1));
        x.pass(1);
        Check.due("isAlarm, share 2, the least limit", true, x.isAlarm(1));
        x.setLimit(1000);
        for (int i = 0; i < 8; i++) {
            x.pass(60);
        }
        x.pass(18);
        Check.due("isAlarm, share 998, the greatest limit", false, x.isAlarm(1));
        x.pass(1);
        Check.due("isAlarm, share 1000, the greatest limit", true, x.isAlarm(1));
    }

    private static void promise17Hire() {
        range("count, 1 to 99", Scenes::quiet, MineHoist::hire, 1, 99);
        Check.due("hire of the least", 41, Scenes.quiet().hire(1));
        Check.due("hire of the greatest", 139, Scenes.quiet().hire(99));
    }

    private static void promise22Charge() {
        range("charge, 1 to 20", Scenes::quiet, (m, charge) -> m.blast(3, charge), 1, 20);
        for (int charge : new int[] {1, 20}) {
            MineHoist x = Scenes.quiet();
            x.blast(3, charge);
            Check.due("gas of a charge of " + charge, 5 * charge, x.gasOf(3));
            Check.due("gas in all of a charge of " + charge, 5 * charge, x.gasTotal());
            Check.due("ore of a charge of " + charge, 3 * charge, x.oreAt(3));
        }
    }

    private static void promise24SetSpeed() {
        range("speed, 10 to 500", Scenes::goingDown, MineHoist::setSpeed, 10, 500);
        MineHoist slow = Scenes.quiet();
        slow.setSpeed(10);
        slow.sendDown(2, 1);
        slow.pass(1);
        Check.due("250 metres with the least speed: 1 + 25, less a minute", 25, slow.tripRest());
        MineHoist fast = Scenes.quiet();
        fast.setSpeed(500);
        fast.sendDown(2, 1);
        fast.pass(1);
        Check.due("250 metres with the greatest speed: 1 + 1, less a minute", 1, fast.tripRest());
    }

    private static void promise25SendDown() {
        range("count, 1 to 12", Scenes::quiet, (m, count) -> m.sendDown(1, count), 1, 12);
        for (int count : new int[] {1, 12}) {
            MineHoist x = Scenes.quiet();
            x.sendDown(1, count);
            x.pass(2);
            Check.due("people of a request down of " + count, count, x.peopleAt(1));
        }
    }

    private static void promise26CallUp() {
        range("count, 1 to 12", Scenes::peopleBelow, (m, count) -> m.callUp(2, count), 1, 12);
        MineHoist x = new MineHoist();
        x.addLevel(100, 100, 1, 0);
        x.hire(13);
        x.sendDown(1, 12);
        x.sendDown(1, 12);
        x.pass(5);
        Check.due("peopleAt(1)", 13, x.peopleAt(1));
        x.callUp(1, 1);
        x.pass(2);
        Check.due("people after a request up of 1", 12, x.peopleAt(1));
        x.callUp(1, 12);
        x.pass(3);
        Check.due("people after a request up of 12", 0, x.peopleAt(1));
        Check.due("people on the surface then", 13, x.peopleAt(0));
    }

    /** The scene holds the requests 0 to 7. */
    private static void promise28Cancel() {
        range("a request that waits", Scenes::crowded, MineHoist::cancel, 0, 7, NoSuchElementException.class);
    }

    private static void promise30WaitingAt() {
        range("a position of 8", Scenes::crowded, MineHoist::waitingAt, 0, 7, IndexOutOfBoundsException.class);
        range("a position of 1", () -> {
            MineHoist x = Scenes.goingDown();
            x.callUp(1, 1);
            return x;
        }, MineHoist::waitingAt, 0, 0, IndexOutOfBoundsException.class);
        MineHoist x = Scenes.crowded();
        Check.due("the oldest one", 0, x.waitingAt(0));
        Check.due("the latest one", 7, x.waitingAt(7));
    }

    private static void promise31Pass() {
        range("minutes, 1 to 60", Scenes::goingDown, MineHoist::pass, 1, 60);
        Check.due("pass of the least", 2, Scenes.goingDown().pass(1));
        Check.due("pass of the greatest", 61, Scenes.goingDown().pass(60));
        range("minutes from 4940", () -> Scenes.late(4940), MineHoist::pass, 1, 60);
        for (int minutes : new int[] {1, 9, 10}) {
            Check.due("pass(" + minutes + ") from 4990", 4990 + minutes, Scenes.late(4990).pass(minutes));
        }
        for (int minutes : new int[] {11, 12, 60}) {
            Check.refused("pass(" + minutes + ") from 4990", IllegalStateException.class, () -> Scenes.late(4990),
                    m -> m.pass(minutes));
        }
    }

    /** The scene holds the request 0 as the present trip, and those from 1 to 7 that wait. */
    private static void promise40WaitFor() {
        range("a request that waits or is taken", () -> {
            MineHoist x = Scenes.crowded();
            x.pass(1);
            return x;
        }, MineHoist::waitFor, 0, 7, NoSuchElementException.class);
    }

    private static void promise43LineAt() {
        range("an index of 15", () -> {
            MineHoist x = Scenes.goingDown();
            x.writeTrip();
            return x;
        }, MineHoist::lineAt, 0, 14, IndexOutOfBoundsException.class);
        range("an index of 4", () -> {
            MineHoist x = new MineHoist();
            x.writeTrip();
            return x;
        }, MineHoist::lineAt, 0, 3, IndexOutOfBoundsException.class);
    }
}
