import java.util.NoSuchElementException;

/** Nothing there yet, all places taken, and counts and the clock at their end. */
final class CountsTest {
    public static void main(String[] args) {
        nothingThereYet();
        nothingToTakeYet();
        minutesWithoutLevels();
        levelWithNothingOnIt();
        atMost200People();
        peopleInTheCageCount();
        meanOfOneAndOfSixLevels();
        countsOfGasAtTheEndOfTheClock();
        callsAtTheEndOfTheClock();
        minutesToAlarmAtItsEnds();
        waitForAtItsEnds();
        requestsToTheEndOfTheCalls();
        theLineAtItsEnds();
        Check.end("CountsTest");
    }

    /** Creates a mine without levels and people. */
    private static void nothingThereYet() {
        MineHoist x = new MineHoist();
        Check.due("levelCount", 0, x.levelCount());
        Check.due("depthOf(0)", 0, x.depthOf(0));
        Check.due("gasTotal", 0, x.gasTotal());
        Check.due("ventedTotal", 0, x.ventedTotal());
        Check.due("peopleAt(0)", 0, x.peopleAt(0));
        Check.due("peopleTotal", 0, x.peopleTotal());
        Check.due("endangered", 0, x.endangered());
        Check.due("oreAt(0)", 0, x.oreAt(0));
        Check.due("waitingCount", 0, x.waitingCount());
        Check.due("clock", 0, x.clock());
        Check.due("tripKind", '-', x.tripKind());
        Check.due("cageLevel", 0, x.cageLevel());
        Check.due("doneCount", 0, x.doneCount());
        Check.due("droppedCount", 0, x.droppedCount());
        Check.due("isConsistent", true, x.isConsistent());
        Check.due("the line", "", Snapshot.line(x));
        Check.due("writeTrip", 4, x.writeTrip());
    }

    private static void nothingToTakeYet() {
        Check.refused("meanShare", ArithmeticException.class, Scenes::empty, MineHoist::meanShare);
        Check.refused("cancel(0)", NoSuchElementException.class, Scenes::empty, m -> m.cancel(0));
        Check.refused("waitingAt(0)", IndexOutOfBoundsException.class, Scenes::empty, m -> m.waitingAt(0));
        Check.refused("tripLevel", NoSuchElementException.class, Scenes::empty, MineHoist::tripLevel);
        Check.refused("tripLoad", NoSuchElementException.class, Scenes::empty, MineHoist::tripLoad);
        Check.refused("tripRest", NoSuchElementException.class, Scenes::empty, MineHoist::tripRest);
        Check.refused("waitFor(0)", NoSuchElementException.class, Scenes::empty, m -> m.waitFor(0));
        Check.refused("lineAt(0)", IndexOutOfBoundsException.class, Scenes::empty, m -> m.lineAt(0));
        Check.refused("minutesToAlarm(1)", IndexOutOfBoundsException.class, Scenes::empty, m -> m.minutesToAlarm(1));
    }

    private static void minutesWithoutLevels() {
        MineHoist x = new MineHoist();
        x.hire(5);
        x.setFan(1000);
        Check.due("pass(60)", 60, x.pass(60));
        Check.due("gasTotal", 0, x.gasTotal());
        Check.due("ventedTotal", 0, x.ventedTotal());
        Check.due("peopleAt(0)", 5, x.peopleAt(0));
        Check.due("tripKind", '-', x.tripKind());
        Check.due("isConsistent", true, x.isConsistent());
        Check.refused("meanShare after minutes", ArithmeticException.class, () -> {
            MineHoist m = new MineHoist();
            m.pass(60);
            return m;
        }, MineHoist::meanShare);
    }

    private static void levelWithNothingOnIt() {
        MineHoist x = new MineHoist();
        x.addLevel(10, 1, 1, 0);
        Check.due("gasOf(1)", 0, x.gasOf(1));
        Check.due("gasShare(1)", 0, x.gasShare(1));
        Check.due("isAlarm(1)", false, x.isAlarm(1));
        Check.due("meanShare", 0.0, x.meanShare());
        Check.due("peopleAt(1)", 0, x.peopleAt(1));
        Check.due("oreAt(1)", 0, x.oreAt(1));
        Check.due("isClosed(1)", false, x.isClosed(1));
        Check.due("endangered", 0, x.endangered());
    }

    /** Refused if there would be more than 200 people in all: 200 are taken, 201 are not. */
    private static void atMost200People() {
        int[][] steps = {{99, 99, 99}, {99, 198, 3}, {1, 199, 2}, {1, 200, 1}};
        MineHoist x = new MineHoist();
        for (int[] step : steps) {
            Check.due("hire(" + step[0] + ")", step[1], x.hire(step[0]));
        }
        Check.due("one more", "IllegalStateException", Check.outcome(x, m -> m.hire(1)));
        Check.due("peopleTotal", 200, x.peopleTotal());
        for (int[] rest : new int[][] {{198, 3}, {199, 2}, {200, 1}}) {
            Check.refused("hire(" + rest[1] + ") at " + rest[0], IllegalStateException.class, () -> {
                MineHoist m = Scenes.quiet();
                m.hire(99);
                m.hire(rest[0] - 139);
                return m;
            }, m -> m.hire(rest[1]));
        }
    }

    /** All people count, "with those in the cage": in a trip down, in one up, in a flight, but no ore. */
    private static void peopleInTheCageCount() {
        MineHoist x = Scenes.full();
        x.setFan(0);
        x.setLimit(1000);
        x.sendDown(2, 12);
        x.pass(1);
        fullWith(x, 'd', 188);
        x.pass(3);
        fullWith(x, '-', 188);
        x.callUp(2, 5);
        x.pass(1);
        fullWith(x, 'u', 188);
        x.pass(3);
        fullWith(x, '-', 193);
        x.blast(1, 20);
        x.hoistOre(1);
        x.pass(1);
        fullWith(x, 'o', 193);
        MineHoist y = Scenes.alarmed();
        y.pass(1);
        Check.due("the kind", 'f', y.tripKind());
        y.hire(99);
        Check.due("hire to 200 in a flight", 188, y.hire(71));
        fullWith(y, 'f', 188);
    }

    private static void fullWith(MineHoist x, char kind, int onSurface) {
        Check.due("the kind of the trip", kind, x.tripKind());
        Check.due("peopleTotal, trip " + kind, 200, x.peopleTotal());
        Check.due("peopleAt(0), trip " + kind, onSurface, x.peopleAt(0));
        Check.due("one more, trip " + kind, "IllegalStateException", Check.outcome(x, m -> m.hire(1)));
    }

    private static void meanOfOneAndOfSixLevels() {
        MineHoist one = new MineHoist();
        one.addLevel(10, 3, 1, 1);
        one.setFan(0);
        one.pass(1);
        Check.due("the mean of one level", 333.0, one.meanShare());
        MineHoist six = new MineHoist();
        for (int level = 1; level <= 6; level++) {
            six.addLevel(10 * level, 500, 1, level == 6 ? 1 : 0);
        }
        six.setFan(0);
        six.pass(1);
        Check.due("the mean of 0, 0, 0, 0, 0 and 2", 2.0 / 6.0, six.meanShare());
    }

    /** Six of the least size with the greatest inflow, without air for 5000 minutes, less one with it. */
    private static void countsOfGasAtTheEndOfTheClock() {
        MineHoist x = new MineHoist();
        for (int level = 1; level <= 6; level++) {
            x.addLevel(10 * level, 1, 1, 50);
        }
        x.setFan(0);
        for (int i = 0; i < 83; i++) {
            x.pass(60);
        }
        Check.due("pass(19)", 4999, x.pass(19));
        Check.due("gasOf(6)", 249950, x.gasOf(6));
        Check.due("gasShare(6)", 249950000, x.gasShare(6));
        Check.due("meanShare", 249950000.0, x.meanShare());
        Check.due("gasTotal", 1499700, x.gasTotal());
        Check.due("ventedTotal", 0, x.ventedTotal());
        Check.due("isConsistent", true, x.isConsistent());
        x.setFan(1000);
        Check.due("the last minute", 5000, x.pass(1));
        Check.due("gasOf(6) at the end", 0, x.gasOf(6));
        Check.due("gasTotal at the end", 1500000, x.gasTotal());
        Check.due("ventedTotal at the end", 1500000, x.ventedTotal());
        Check.due("isConsistent at the end", true, x.isConsistent());
    }

    /** At 5000 just pass is refused. */
    private static void callsAtTheEndOfTheClock() {
        MineHoist x = Scenes.late(5000);
        Check.due("clock", 5000, x.clock());
        Check.due("pass(1)", "IllegalStateException", Check.outcome(x, m -> m.pass(1)));
        Check.due("clock after a refusal", 5000, x.clock());
        x.setLimit(1000);
        Check.due("blast", 5030, x.blast(1, 20));
        Check.due("isClosed(1)", true, x.isClosed(1));
        Check.due("oreAt(1)", 60, x.oreAt(1));
        Check.due("hire", 99, x.hire(99));
        Check.due("sendDown", 0, x.sendDown(2, 12));
        Check.due("callUp", 1, x.callUp(2, 1));
        Check.due("hoistOre", 2, x.hoistOre(1));
        Check.due("cancel", 2, x.cancel(1));
        Check.due("setFan", 100, x.setFan(10));
        Check.due("setSpeed", 100, x.setSpeed(10));
        Check.due("setDoor", true, x.setDoor(1, false));
        Check.due("airOf(2)", 10, x.airOf(2));
        Check.due("writeTrip", 4, x.writeTrip());
        Check.due("tripKind", '-', x.tripKind());
        Check.due("isConsistent", true, x.isConsistent());
        MineHoist trip = Scenes.late(4999);
        trip.setLimit(1000);
        trip.hire(3);
        trip.sendDown(2, 3);
        trip.pass(1);
        Check.due("the rest of a trip at 5000: 1 + 0 + 3, less a minute", 3, trip.tripRest());
        Check.due("pass(3) then", "IllegalStateException", Check.outcome(trip, m -> m.pass(3)));
        Check.due("the rest after it", 3, trip.tripRest());
        Check.due("waitFor beyond 5000, a bound that is named for pass alone", 3, trip.waitFor(0));
        MineHoist gas = Scenes.late(5000);
        gas.setFan(0);
        gas.setLimit(1000);
        Check.due("gasOf(1) at 5000", 1, gas.gasOf(1));
        Check.due("minutesToAlarm beyond 5000, for the same reason", 50, gas.minutesToAlarm(1));
    }

    /** 0 if there is an alarm now; refused if this is not so within 500 minutes. */
    private static void minutesToAlarmAtItsEnds() {
        MineHoist x = new MineHoist();
        x.addLevel(10, 500, 1, 1);
        x.addLevel(20, 500, 1, 0);
        x.setFan(0);
        for (int limit : new int[] {1, 2, 3, 4, 998, 999, 1000}) {
            x.setLimit(limit);
            Check.due("minutesToAlarm with limit " + limit, (limit + 1) / 2, x.minutesToAlarm(1));
        }
        x.blast(2, 1);
        x.setLimit(10);
        Check.due("minutesToAlarm with a share at the limit", 0, x.minutesToAlarm(2));
        x.setLimit(9);
        Check.due("minutesToAlarm with a share above the limit", 0, x.minutesToAlarm(2));
        Check.refused("minutesToAlarm with a share below the limit, for ever", NoSuchElementException.class, () -> {
            MineHoist m = Scenes.quiet();
            m.setFan(0);
            m.blast(2, 1);
            m.setLimit(51);
            return m;
        }, m -> m.minutesToAlarm(2));
        Check.refused("minutesToAlarm with a share that the air keeps below it", NoSuchElementException.class, () -> {
            MineHoist m = new MineHoist();
            m.addLevel(10, 100, 1, 1);
            m.setFan(50);
            m.setLimit(20);
            return m;
        }, m -> m.minutesToAlarm(1));
        MineHoist last = new MineHoist();
        last.addLevel(10, 100, 1, 1);
        last.setFan(50);
        last.setLimit(10);
        Check.due("minutesToAlarm with a share that the air keeps at it", 1, last.minutesToAlarm(1));
    }

    /**
     * Two requests down of 1 + 200 and 1 + 200 + way minutes: 500 are taken, 501 are not. A trip that runs has 400
     * at most.
     */
    private static void waitForAtItsEnds() {
        for (int depth : new int[] {971, 980, 981, 990, 1000}) {
            MineHoist x = new MineHoist();
            x.addLevel(depth, 1, 1, 0);
            x.addLevel(2000, 1, 1, 0);
            x.setSpeed(10);
            x.hire(2);
            x.sendDown(2, 1);
            x.sendDown(1, 1);
            Check.due("waitFor the first, depth " + depth, 201, x.waitFor(0));
            Check.due("waitFor the second, depth " + depth, depth <= 980 ? "nothing thrown"
                    : "UnsupportedOperationException", Check.outcome(x, m -> m.waitFor(1)));
            x.pass(2);
            Check.due("waitFor the second two minutes later", 400 + (depth + 9) / 10, x.waitFor(1));
        }
        MineHoist least = new MineHoist();
        least.addLevel(10, 1, 1, 0);
        least.hire(1);
        least.sendDown(1, 1);
        Check.due("waitFor of the least trip", 2, least.waitFor(0));
        least.pass(1);
        Check.due("waitFor in its last minute", 1, least.waitFor(0));
        MineHoist most = new MineHoist();
        most.addLevel(2000, 1, 1, 0);
        most.setSpeed(10);
        most.blast(1, 1);
        most.hoistOre(1);
        Check.due("waitFor of the greatest trip", 401, most.waitFor(0));
        most.pass(1);
        Check.due("waitFor in its first minute", 400, most.waitFor(0));
    }

    /** 250 requests, each canceled at once, as many as the calls of an object allow: the numbers go on. */
    private static void requestsToTheEndOfTheCalls() {
        MineHoist x = Scenes.quiet();
        for (int number = 0; number < 250; number++) {
            Check.due("the number of the request", number, x.callUp(1 + number % 3, 1));
            Check.due("cancel of it", 0, x.cancel(number));
        }
        Check.due("cancel of the last again", "NoSuchElementException", Check.outcome(x, m -> m.cancel(249)));
        Check.due("droppedCount", 0, x.droppedCount());
        Check.due("doneCount", 0, x.doneCount());
    }

    /** Empty at first; then the shortest line, the shortest one of a trip and the longest one. */
    private static void theLineAtItsEnds() {
        MineHoist x = new MineHoist();
        lineIs("", x);
        x.addLevel(10, 500, 1, 0);
        x.writeTrip();
        lineIs("none", x);
        x.hire(1);
        x.sendDown(1, 1);
        x.pass(2);
        x.callUp(1, 1);
        x.pass(1);
        x.writeTrip();
        lineIs("up 1 L1 1min", x);
        MineHoist y = new MineHoist();
        for (int level = 1; level <= 6; level++) {
            y.addLevel(level == 6 ? 2000 : 10 * level, 500, 1, 1);
        }
        y.setFan(0);
        y.setLimit(1000);
        y.setSpeed(500);
        y.hire(12);
        y.sendDown(6, 12);
        y.pass(5);
        y.setSpeed(10);
        y.setLimit(1);
        y.pass(1);
        y.writeTrip();
        lineIs("flight 12 L6 200min", y);
    }

    private static void lineIs(String due, MineHoist x) {
        int length = due.length();
        for (int index = 0; index < length; index++) {
            Check.due("lineAt(" + index + ") of '" + due + "'", due.charAt(index), x.lineAt(index));
        }
        for (int index : new int[] {-1, length, length + 1, Integer.MIN_VALUE, Integer.MAX_VALUE}) {
            Check.due("lineAt(" + index + ") of '" + due + "'", "IndexOutOfBoundsException",
                    Check.outcome(x, m -> m.lineAt(index)));
        }
    }
}
