import java.util.NoSuchElementException;

/** Promises 24 to 30: the speed and the requests. */
final class RequestsTest {
    public static void main(String[] args) {
        promise24SetSpeed();
        promise25SendDown();
        promise25SendDownRefused();
        promise26CallUp();
        promise27HoistOre();
        promise28Cancel();
        promises29And30Waiting();
        Check.end("RequestsTest");
    }

    private static void promise24SetSpeed() {
        MineHoist x = Scenes.quiet();
        Check.due("setSpeed, first", 100, x.setSpeed(10));
        Check.due("setSpeed, second", 10, x.setSpeed(500));
        Check.due("setSpeed, third", 500, x.setSpeed(83));
        x.sendDown(2, 1);
        x.pass(1);
        Check.due("rest of 250 metres with 83: 1 + 0 + 4, less a minute", 4, x.tripRest());
        x.setSpeed(500);
        x.pass(1);
        Check.due("rest of a trip that began before the speed was set", 3, x.tripRest());
        x.pass(3);
        x.callUp(2, 1);
        x.pass(1);
        Check.due("rest with the new speed: 1 + 0 + 1, less a minute", 1, x.tripRest());
        for (int speed : new int[] {9, 0, -10, 501, Integer.MIN_VALUE, Integer.MAX_VALUE}) {
            Check.refused("setSpeed(" + speed + ")", IllegalArgumentException.class, Scenes::quiet,
                    m -> m.setSpeed(speed));
        }
    }

    private static void promise25SendDown() {
        MineHoist x = Scenes.quiet();
        Check.due("sendDown(1, 1)", 0, x.sendDown(1, 1));
        Check.due("sendDown(3, 12)", 1, x.sendDown(3, 12));
        Check.due("peopleAt(0) while they wait", 40, x.peopleAt(0));
        MineHoist y = new MineHoist();
        y.addLevel(100, 100, 1, 0);
        Check.due("sendDown with nobody there", 0, y.sendDown(1, 12));
        y.pass(1);
        Check.due("droppedCount with nobody there", 1, y.droppedCount());
        MineHoist z = Scenes.blasted();
        z.pass(30);
        Check.due("sendDown when it is open again", 0, z.sendDown(1, 12));
    }

    private static void promise25SendDownRefused() {
        for (int level : new int[] {-1, 0, 4, 6, 7, Integer.MIN_VALUE, Integer.MAX_VALUE}) {
            Check.refused("sendDown(" + level + ", 0)", IndexOutOfBoundsException.class, Scenes::crowded,
                    m -> m.sendDown(level, 0));
        }
        for (int count : new int[] {-1, 0, 13, Integer.MIN_VALUE, Integer.MAX_VALUE}) {
            Check.refused("sendDown(1, " + count + ")", IllegalArgumentException.class, Scenes::crowded,
                    m -> m.sendDown(1, count));
            Check.refused("sendDown(1, " + count + ") to a closed level", IllegalArgumentException.class,
                    Scenes::blasted, m -> m.sendDown(1, count));
        }
        Check.refused("sendDown to a closed level", UnsupportedOperationException.class, Scenes::blasted,
                m -> m.sendDown(1, 1));
        Check.refused("sendDown to a level with an alarm", UnsupportedOperationException.class, () -> {
            MineHoist x = Scenes.quiet();
            x.setFan(0);
            x.blast(1, 1);
            x.pass(30);
            return x;
        }, m -> m.sendDown(1, 1));
        Check.refused("sendDown to a closed level with 8 waiting", UnsupportedOperationException.class, () -> {
            MineHoist x = Scenes.crowded();
            x.setLimit(1000);
            x.blast(1, 1);
            return x;
        }, m -> m.sendDown(1, 1));
        Check.refused("a ninth sendDown", IllegalStateException.class, Scenes::crowded, m -> m.sendDown(1, 1));
    }

    private static void promise26CallUp() {
        MineHoist x = Scenes.quiet();
        Check.due("callUp(1, 12)", 0, x.callUp(1, 12));
        Check.due("callUp(3, 1)", 1, x.callUp(3, 1));
        MineHoist y = Scenes.blasted();
        Check.due("callUp from a closed level", 0, y.callUp(1, 12));
        y.setLimit(1);
        Check.due("callUp from a level with an alarm", 1, y.callUp(1, 12));
        for (int level : new int[] {-1, 0, 4, 6, 7, Integer.MIN_VALUE, Integer.MAX_VALUE}) {
            Check.refused("callUp(" + level + ", 0)", IndexOutOfBoundsException.class, Scenes::crowded,
                    m -> m.callUp(level, 0));
        }
        for (int count : new int[] {-1, 0, 13, Integer.MIN_VALUE, Integer.MAX_VALUE}) {
            Check.refused("callUp(1, " + count + ")", IllegalArgumentException.class, Scenes::crowded,
                    m -> m.callUp(1, count));
        }
        Check.refused("a ninth request, up", IllegalStateException.class, Scenes::crowded, m -> m.callUp(1, 1));
    }

    private static void promise27HoistOre() {
        MineHoist x = Scenes.blasted();
        Check.due("sendDown(2, 1)", 0, x.sendDown(2, 1));
        Check.due("callUp(2, 1)", 1, x.callUp(2, 1));
        Check.due("hoistOre(1) from a closed level", 2, x.hoistOre(1));
        Check.due("hoistOre(2) without ore", 3, x.hoistOre(2));
        Check.due("hoistOre(1) again", 4, x.hoistOre(1));
        for (int level : new int[] {-1, 0, 4, 6, 7, Integer.MIN_VALUE, Integer.MAX_VALUE}) {
            Check.refused("hoistOre(" + level + ")", IndexOutOfBoundsException.class, Scenes::crowded,
                    m -> m.hoistOre(level));
        }
        Check.refused("a ninth request, of ore", IllegalStateException.class, Scenes::crowded,
                m -> m.hoistOre(1));
        MineHoist y = Scenes.crowded();
        Check.outcome(y, m -> m.hoistOre(1));
        y.cancel(3);
        Check.due("the number after a refusal and a cancel", 8, y.hoistOre(1));
    }

    private static void promise28Cancel() {
        MineHoist x = Scenes.crowded();
        Check.due("cancel(0)", 7, x.cancel(0));
        Check.due("cancel(7)", 6, x.cancel(7));
        Check.due("cancel(3)", 5, x.cancel(3));
        Check.due("those that wait", "1 2 4 5 6", Snapshot.waiting(x));
        Check.due("the next number", 8, x.callUp(1, 1));
        Check.due("those that wait then", "1 2 4 5 6 8", Snapshot.waiting(x));
        Check.due("droppedCount after cancel", 0, x.droppedCount());
        for (int request : new int[] {-1, 8, 9, Integer.MIN_VALUE, Integer.MAX_VALUE}) {
            Check.refused("cancel(" + request + ")", NoSuchElementException.class, Scenes::crowded,
                    m -> m.cancel(request));
        }
        Check.refused("cancel of a canceled one", NoSuchElementException.class, () -> {
            MineHoist m = Scenes.crowded();
            m.cancel(2);
            return m;
        }, m -> m.cancel(2));
        Check.refused("cancel of the last, which is canceled", NoSuchElementException.class, () -> {
            MineHoist m = Scenes.crowded();
            m.cancel(7);
            return m;
        }, m -> m.cancel(7));
        Check.refused("cancel of the present trip", NoSuchElementException.class, Scenes::goingDown,
                m -> m.cancel(0));
        Check.refused("cancel of a trip that has ended", NoSuchElementException.class, Scenes::peopleBelow,
                m -> m.cancel(0));
        MineHoist y = Scenes.quiet();
        y.sendDown(1, 5);
        y.cancel(0);
        y.pass(5);
        Check.due("nobody goes for a canceled request", 0, y.peopleAt(1));
    }

    private static void promises29And30Waiting() {
        MineHoist x = Scenes.quiet();
        Check.due("waitingCount at first", 0, x.waitingCount());
        x.sendDown(1, 1);
        x.hoistOre(1);
        x.callUp(1, 1);
        Check.due("waitingCount of 3", 3, x.waitingCount());
        Check.due("those that wait, in their order", "0 1 2", Snapshot.waiting(x));
        x.pass(1);
        Check.due("waitingCount when one is taken", 2, x.waitingCount());
        Check.due("those that wait when one is taken", "1 2", Snapshot.waiting(x));
        x.pass(2);
        Check.due("those that wait when two are taken", "1", Snapshot.waiting(x));
        Check.due("waitingCount of 8", 8, Scenes.crowded().waitingCount());
        for (int position : new int[] {-1, 8, Integer.MIN_VALUE, Integer.MAX_VALUE}) {
            Check.refused("waitingAt(" + position + ")", IndexOutOfBoundsException.class, Scenes::crowded,
                    m -> m.waitingAt(position));
        }
        Check.refused("waitingAt(0) when nothing waits", IndexOutOfBoundsException.class, Scenes::quiet,
                m -> m.waitingAt(0));
        Check.refused("waitingAt(0) when all are taken", IndexOutOfBoundsException.class, Scenes::goingDown,
                m -> m.waitingAt(0));
    }
}
