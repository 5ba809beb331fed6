import java.util.LinkedHashMap;
import java.util.Map;
import java.util.function.Consumer;

/** Promises 42 and 43: the line. */
final class LineTest {
    public static void main(String[] args) {
        promise42WriteTrip();
        promise42LongNumbers();
        promise42InPlaceOfTheLineBefore();
        promise42StaysTillItIsWrittenAnew();
        promise43LineAt();
        Check.end("LineTest");
    }

    private static void written(String due, MineHoist x) {
        Check.due("writeTrip of '" + due + "'", due.length(), x.writeTrip());
        Check.due("the line", due, Snapshot.line(x));
    }

    private static void promise42WriteTrip() {
        written("none", new MineHoist());
        written("down 12 L2 3min", Scenes.goingDown());
        MineHoist up = Scenes.peopleBelow();
        up.callUp(2, 5);
        up.pass(1);
        written("up 5 L2 3min", up);
        MineHoist ore = Scenes.blasted();
        ore.hoistOre(1);
        ore.pass(1);
        written("ore 20 L1 2min", ore);
        MineHoist flight = Scenes.alarmed();
        flight.pass(1);
        written("flight 12 L1 1min", flight);
        flight.pass(1);
        written("none", flight);
    }

    private static void promise42LongNumbers() {
        MineHoist x = new MineHoist();
        for (int level = 1; level <= 6; level++) {
            x.addLevel(level == 6 ? 2000 : level * 300, 100, 1, 0);
        }
        x.setSpeed(10);
        x.setLimit(1000);
        x.blast(6, 20);
        x.hoistOre(6);
        x.pass(1);
        written("ore 20 L6 400min", x);
        x.pass(60);
        written("ore 20 L6 340min", x);
        x.pass(60);
        x.pass(60);
        x.pass(60);
        x.pass(60);
        written("ore 20 L6 100min", x);
        x.pass(1);
        written("ore 20 L6 99min", x);
        x.pass(60);
        x.pass(29);
        written("ore 20 L6 10min", x);
        x.pass(1);
        written("ore 20 L6 9min", x);
    }

    private static void promise42InPlaceOfTheLineBefore() {
        MineHoist x = Scenes.quiet();
        x.writeTrip();
        x.sendDown(2, 12);
        x.pass(1);
        Check.due("the line before it is written anew", "none", Snapshot.line(x));
        x.writeTrip();
        x.pass(1);
        Check.due("the line a minute later", "down 12 L2 3min", Snapshot.line(x));
        x.pass(2);
        x.writeTrip();
        Check.due("a shorter line in its place", "none", Snapshot.line(x));
    }

    private static void promise42StaysTillItIsWrittenAnew() {
        MineHoist x = new MineHoist();
        x.addLevel(100, 100, 3, 1);
        x.hire(30);
        x.setLimit(1000);
        x.sendDown(1, 3);
        x.pass(1);
        x.writeTrip();
        String due = "down 3 L1 1min";
        // Just both ends of the line each time, for the calls of an object are numbered.
        for (Map.Entry<String, Consumer<MineHoist>> call : calls().entrySet()) {
            Check.taken(call.getKey(), x, call.getValue());
            Check.taken("lineAt(13) after " + call.getKey(), x, m -> m.lineAt(13));
            Check.due("lineAt(14) after " + call.getKey(), "IndexOutOfBoundsException",
                    Check.outcome(x, m -> m.lineAt(14)));
        }
        Check.due("the line after all of them", due, Snapshot.line(x));
        MineHoist y = new MineHoist();
        y.writeTrip();
        y.addLevel(100, 100, 3, 1);
        Check.due("the line after addLevel", "none", Snapshot.line(y));
        Check.outcome(y, m -> m.setFan(-1));
        Check.due("the line after a refusal", "none", Snapshot.line(y));
    }

    /** All that a mine with one level and a trip to it takes, but addLevel, writeTrip and lineAt. */
    private static Map<String, Consumer<MineHoist>> calls() {
        Map<String, Consumer<MineHoist>> calls = new LinkedHashMap<>();
        calls.put("tripLevel", MineHoist::tripLevel);
        calls.put("tripLoad", MineHoist::tripLoad);
        calls.put("tripRest", MineHoist::tripRest);
        calls.put("waitFor the trip", m -> m.waitFor(0));
        calls.put("pass to its end", m -> m.pass(1));
        calls.put("levelCount", MineHoist::levelCount);
        calls.put("depthOf", m -> m.depthOf(1));
        calls.put("setFan", m -> m.setFan(0));
        calls.put("setDoor", m -> m.setDoor(1, false));
        calls.put("airOf", m -> m.airOf(1));
        calls.put("airByPaths", m -> m.airByPaths(1));
        calls.put("setLimit", m -> m.setLimit(999));
        calls.put("gasOf", m -> m.gasOf(1));
        calls.put("gasShare", m -> m.gasShare(1));
        calls.put("isAlarm", m -> m.isAlarm(1));
        calls.put("gasTotal", MineHoist::gasTotal);
        calls.put("ventedTotal", MineHoist::ventedTotal);
        calls.put("meanShare", MineHoist::meanShare);
        calls.put("minutesToAlarm", m -> m.minutesToAlarm(1));
        calls.put("hire", m -> m.hire(1));
        calls.put("peopleAt", m -> m.peopleAt(1));
        calls.put("peopleTotal", MineHoist::peopleTotal);
        calls.put("endangered", MineHoist::endangered);
        calls.put("oreAt", m -> m.oreAt(1));
        calls.put("isClosed", m -> m.isClosed(1));
        calls.put("setSpeed", m -> m.setSpeed(10));
        calls.put("callUp", m -> m.callUp(1, 12));
        calls.put("pass to the end of the request up", m -> m.pass(11));
        calls.put("blast", m -> m.blast(1, 1));
        calls.put("hoistOre", m -> m.hoistOre(1));
        calls.put("waitingCount", MineHoist::waitingCount);
        calls.put("waitingAt", m -> m.waitingAt(0));
        calls.put("waitFor what waits", m -> m.waitFor(2));
        calls.put("cancel", m -> m.cancel(2));
        calls.put("clock", MineHoist::clock);
        calls.put("tripKind", MineHoist::tripKind);
        calls.put("cageLevel", MineHoist::cageLevel);
        calls.put("doneCount", MineHoist::doneCount);
        calls.put("droppedCount", MineHoist::droppedCount);
        calls.put("isConsistent", MineHoist::isConsistent);
        calls.put("pass till it is open", m -> m.pass(30));
        calls.put("sendDown", m -> m.sendDown(1, 1));
        return calls;
    }

    private static void promise43LineAt() {
        MineHoist x = Scenes.goingDown();
        x.writeTrip();
        Check.due("lineAt(0)", 'd', x.lineAt(0));
        Check.due("lineAt(4)", ' ', x.lineAt(4));
        Check.due("lineAt(8)", 'L', x.lineAt(8));
        Check.due("lineAt(14)", 'n', x.lineAt(14));
        for (int index : new int[] {-1, 0, 1, Integer.MIN_VALUE, Integer.MAX_VALUE}) {
            Check.refused("lineAt(" + index + ") of the empty line", IndexOutOfBoundsException.class,
                    Scenes::empty, m -> m.lineAt(index));
        }
        for (int index : new int[] {-1, 15, 16, Integer.MIN_VALUE, Integer.MAX_VALUE}) {
            Check.refused("lineAt(" + index + ") of 15", IndexOutOfBoundsException.class, () -> {
                MineHoist m = Scenes.goingDown();
                m.writeTrip();
                return m;
            }, m -> m.lineAt(index));
        }
        for (int index : new int[] {4, 14}) {
            Check.refused("lineAt(" + index + ") of 4", IndexOutOfBoundsException.class, () -> {
                MineHoist m = Scenes.goingDown();
                m.writeTrip();
                m.pass(3);
                m.writeTrip();
                return m;
            }, m -> m.lineAt(index));
        }
    }
}
