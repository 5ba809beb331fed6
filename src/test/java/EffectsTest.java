import java.util.LinkedHashMap;
import java.util.Map;
import java.util.function.Consumer;
import java.util.function.Supplier;

/**
 * What each call changes, and nothing else: all that the observers tell of a mine that was asked is set beside what
 * they tell of one that was not. A call that just tells something changes nothing, now or for the minutes to come.
 */
final class EffectsTest {
    public static void main(String[] args) {
        theScenes();
        callsThatJustTell();
        promise2AddLevel();
        promise5SetFan();
        promise6SetDoor();
        promise9SetLimit();
        promise17Hire();
        promise22Blast();
        promise24SetSpeed();
        promises25To27Requests();
        promise28Cancel();
        promise31AMinuteWithoutTrip();
        promise31AMinuteOfATripDown();
        promise31AMinuteOfATripUp();
        promise31AMinuteOfATripOfOre();
        promise31AMinuteOfAFlight();
        promise31AMinuteWithDroppedRequests();
        promise42WriteTrip();
        Check.end("EffectsTest");
    }

    private static void effect(String what, Supplier<MineHoist> scene, Consumer<MineHoist> call, String due) {
        MineHoist untouched = scene.get();
        MineHoist asked = scene.get();
        Check.taken(what, asked, call);
        Check.due("what " + what + " changes", due, Snapshot.difference(all(untouched), all(asked)));
    }

    private static Map<String, String> all(MineHoist x) {
        Map<String, String> all = new LinkedHashMap<>(Snapshot.facts(x));
        all.putAll(Snapshot.settings(x));
        return all;
    }

    /** Calls one after the other. */
    private static Supplier<MineHoist> with(Supplier<MineHoist> scene, Consumer<MineHoist> calls) {
        return () -> {
            MineHoist x = scene.get();
            calls.accept(x);
            return x;
        };
    }

    /** A mine before its first minute, with all that can be asked of it by then. */
    private static MineHoist ready() {
        MineHoist x = Scenes.quiet();
        x.setFan(60);
        x.setLimit(900);
        x.setSpeed(50);
        x.setDoor(3, false);
        x.blast(3, 1);
        x.sendDown(1, 2);
        x.hoistOre(3);
        return x;
    }

    /**
     * 6 of 10 people left on level 1, 4 of them on their way up, and 30 on the surface; a blast on level 3, with gas,
     * ore and a request for it; a request down to level 2.
     */
    private static MineHoist busy() {
        MineHoist x = new MineHoist();
        x.writeTrip();
        x.addLevel(100, 100, 3, 1);
        x.addLevel(250, 200, 2, 2);
        x.addLevel(310, 300, 1, 3);
        x.setFan(60);
        x.setLimit(500);
        x.hire(40);
        x.sendDown(1, 10);
        x.pass(2);
        x.setSpeed(50);
        x.blast(3, 5);
        x.hoistOre(3);
        x.callUp(1, 4);
        x.sendDown(2, 3);
        x.setDoor(2, false);
        x.pass(1);
        return x;
    }

    /**
     * No trip yet, but 10 people on level 1 with an alarm; a blast on level 3, with gas, ore and a closed door; three
     * requests, of which the first is to be dropped.
     */
    private static MineHoist uneasy() {
        MineHoist x = new MineHoist();
        x.writeTrip();
        x.addLevel(100, 100, 3, 10);
        x.addLevel(250, 200, 2, 2);
        x.addLevel(310, 300, 1, 3);
        x.setFan(60);
        x.setLimit(500);
        x.hire(40);
        x.setDoor(3, false);
        x.sendDown(1, 10);
        x.pass(2);
        x.blast(3, 5);
        x.callUp(2, 1);
        x.sendDown(2, 3);
        x.hoistOre(3);
        x.setSpeed(50);
        x.setLimit(100);
        return x;
    }

    /** A call that is broken may break the scenes that are made with it, so that both mines of a test are the same. */
    private static void theScenes() {
        told("the ready mine", ready(),
                "levelCount 3",
                "depthOf(0) 0, peopleAt(0) 40, oreAt(0) 0",
                "depthOf(1) 100, peopleAt(1) 0, oreAt(1) 0",
                "depthOf(2) 250, peopleAt(2) 0, oreAt(2) 0",
                "depthOf(3) 310, peopleAt(3) 0, oreAt(3) 3",
                "airOf(1) 36, airByPaths(1) 36, gasOf(1) 0",
                "gasShare(1) 0, isAlarm(1) false, isClosed(1) false, minutesToAlarm(1) NoSuchElementException",
                "airOf(2) 24, airByPaths(2) 24, gasOf(2) 0",
                "gasShare(2) 0, isAlarm(2) false, isClosed(2) false, minutesToAlarm(2) NoSuchElementException",
                "airOf(3) 0, airByPaths(3) 0, gasOf(3) 5",
                "gasShare(3) 50, isAlarm(3) false, isClosed(3) true, minutesToAlarm(3) NoSuchElementException",
                "gasTotal 5, ventedTotal 0, meanShare 16.666666666666668, peopleTotal 40, endangered 0",
                "waitingCount 2, waiting 0 1",
                "clock 0",
                "tripKind -, tripLevel NoSuchElementException",
                "tripLoad NoSuchElementException, tripRest NoSuchElementException",
                "cageLevel 0, doneCount 0, droppedCount 0, isConsistent true",
                "waitFor(0) 3, waitFor(1) 16",
                "line 'none'",
                "fan 60, limit 900, speed 50, door 1 true, door 2 true, door 3 false, next request 2");
        told("the busy mine", busy(),
                "levelCount 3",
                "depthOf(0) 0, peopleAt(0) 30, oreAt(0) 0",
                "depthOf(1) 100, peopleAt(1) 6, oreAt(1) 0",
                "depthOf(2) 250, peopleAt(2) 0, oreAt(2) 0",
                "depthOf(3) 310, peopleAt(3) 0, oreAt(3) 15",
                "airOf(1) 45, airByPaths(1) 45, gasOf(1) 2",
                "gasShare(1) 20, isAlarm(1) false, isClosed(1) false, minutesToAlarm(1) NoSuchElementException",
                "airOf(2) 0, airByPaths(2) 0, gasOf(2) 6",
                "gasShare(2) 30, isAlarm(2) false, isClosed(2) false, minutesToAlarm(2) 47",
                "airOf(3) 15, airByPaths(3) 15, gasOf(3) 33",
                "gasShare(3) 110, isAlarm(3) false, isClosed(3) true, minutesToAlarm(3) NoSuchElementException",
                "gasTotal 43, ventedTotal 2, meanShare 53.333333333333336, peopleTotal 40, endangered 0",
                "waitingCount 2, waiting 1 3",
                "clock 3",
                "tripKind u, tripLevel 1, tripLoad 4, tripRest 2",
                "cageLevel 1, doneCount 1, droppedCount 0, isConsistent true",
                "waitFor(1) 18, waitFor(3) 8, waitFor(2) 2",
                "line 'none'",
                "fan 60, limit 500, speed 50, door 1 true, door 2 false, door 3 true, next request 4");
        told("the uneasy mine", uneasy(),
                "levelCount 3",
                "depthOf(0) 0, peopleAt(0) 30, oreAt(0) 0",
                "depthOf(1) 100, peopleAt(1) 10, oreAt(1) 0",
                "depthOf(2) 250, peopleAt(2) 0, oreAt(2) 0",
                "depthOf(3) 310, peopleAt(3) 0, oreAt(3) 15",
                "airOf(1) 36, airByPaths(1) 36, gasOf(1) 11",
                "gasShare(1) 110, isAlarm(1) true, isClosed(1) false, minutesToAlarm(1) 0",
                "airOf(2) 24, airByPaths(2) 24, gasOf(2) 4",
                "gasShare(2) 20, isAlarm(2) false, isClosed(2) false, minutesToAlarm(2) NoSuchElementException",
                "airOf(3) 0, airByPaths(3) 0, gasOf(3) 31",
                "gasShare(3) 103, isAlarm(3) true, isClosed(3) true, minutesToAlarm(3) 0",
                "gasTotal 55, ventedTotal 9, meanShare 77.66666666666667, peopleTotal 40, endangered 10",
                "waitingCount 3, waiting 1 2 3",
                "clock 2",
                "tripKind -, tripLevel NoSuchElementException",
                "tripLoad NoSuchElementException, tripRest NoSuchElementException",
                "cageLevel 1, doneCount 1, droppedCount 0, isConsistent true",
                "waitFor(1) UnsupportedOperationException, waitFor(2) 9, waitFor(3) 19",
                "line 'none'",
                "fan 60, limit 100, speed 50, door 1 true, door 2 true, door 3 false, next request 4");
    }

    private static void told(String what, MineHoist x, String... dues) {
        StringBuilder text = new StringBuilder();
        all(x).forEach((call, answer) -> text.append(call).append(' ').append(answer).append(", "));
        Check.due("what is told of " + what, String.join(", ", dues) + ", ", text.toString());
    }

    private static void callsThatJustTell() {
        Map<String, Consumer<MineHoist>> calls = new LinkedHashMap<>();
        calls.put("levelCount", MineHoist::levelCount);
        calls.put("depthOf", m -> m.depthOf(3));
        calls.put("airOf", m -> m.airOf(3));
        calls.put("airByPaths", m -> m.airByPaths(1));
        calls.put("gasOf", m -> m.gasOf(1));
        calls.put("gasShare", m -> m.gasShare(3));
        calls.put("isAlarm", m -> m.isAlarm(1));
        calls.put("gasTotal", MineHoist::gasTotal);
        calls.put("ventedTotal", MineHoist::ventedTotal);
        calls.put("meanShare", MineHoist::meanShare);
        calls.put("minutesToAlarm", m -> Check.outcome(m, x -> x.minutesToAlarm(2)));
        calls.put("peopleAt", m -> m.peopleAt(1));
        calls.put("peopleTotal", MineHoist::peopleTotal);
        calls.put("endangered", MineHoist::endangered);
        calls.put("oreAt", m -> m.oreAt(3));
        calls.put("isClosed", m -> m.isClosed(3));
        calls.put("waitingCount", MineHoist::waitingCount);
        calls.put("waitingAt", m -> m.waitingAt(1));
        calls.put("clock", MineHoist::clock);
        calls.put("tripKind", MineHoist::tripKind);
        calls.put("cageLevel", MineHoist::cageLevel);
        calls.put("doneCount", MineHoist::doneCount);
        calls.put("droppedCount", MineHoist::droppedCount);
        calls.put("waitFor", m -> m.waitFor(3));
        calls.put("isConsistent", MineHoist::isConsistent);
        calls.put("lineAt", m -> m.lineAt(3));
        calls.forEach((name, call) -> {
            Check.onlyTells(name + " in a trip", EffectsTest::busy, call);
            Check.onlyTells(name + " before a flight", EffectsTest::uneasy, call);
        });
        Supplier<MineHoist> trip = with(EffectsTest::busy, m -> m.setDoor(3, false));
        Check.onlyTells("tripLevel", trip, MineHoist::tripLevel);
        Check.onlyTells("tripLoad", trip, MineHoist::tripLoad);
        Check.onlyTells("tripRest", trip, MineHoist::tripRest);
        Check.onlyTells("waitFor the present trip", trip, m -> m.waitFor(2));
    }

    private static void promise2AddLevel() {
        effect("addLevel", Scenes::quiet, m -> m.addLevel(400, 200, 6, 1),
                "airByPaths(1) 50 > 25, airByPaths(2) 33 > 16, airByPaths(3) 17 > 8, airByPaths(4) ? > 51, "
                + "airOf(1) 50 > 25, airOf(2) 33 > 16, airOf(3) 17 > 8, airOf(4) ? > 51, depthOf(4) ? > 400, "
                + "door 4 ? > true, gasOf(4) ? > 0, gasShare(4) ? > 0, isAlarm(4) ? > false, "
                + "isClosed(4) ? > false, levelCount 3 > 4, minutesToAlarm(4) ? > NoSuchElementException, "
                + "oreAt(4) ? > 0, peopleAt(4) ? > 0");
        effect("addLevel before the first trip", EffectsTest::ready, m -> m.addLevel(2000, 500, 1, 0),
                "airByPaths(1) 36 > 30, airByPaths(2) 24 > 20, airByPaths(4) ? > 10, airOf(1) 36 > 30, "
                + "airOf(2) 24 > 20, airOf(4) ? > 10, depthOf(4) ? > 2000, door 4 ? > true, gasOf(4) ? > 0, "
                + "gasShare(4) ? > 0, isAlarm(4) ? > false, isClosed(4) ? > false, levelCount 3 > 4, "
                + "meanShare 16.666666666666668 > 12.5, minutesToAlarm(4) ? > NoSuchElementException, "
                + "oreAt(4) ? > 0, peopleAt(4) ? > 0");
        effect("a first addLevel", Scenes::empty, m -> m.addLevel(10, 50, 6, 1),
                "airByPaths(1) ? > 100, airOf(1) ? > 100, depthOf(1) ? > 10, door 1 ? > true, "
                + "gasOf(1) ? > 0, gasShare(1) ? > 0, isAlarm(1) ? > false, isClosed(1) ? > false, "
                + "levelCount 0 > 1, meanShare ArithmeticException > 0.0, "
                + "minutesToAlarm(1) ? > NoSuchElementException, next request IndexOutOfBoundsException > 0, "
                + "oreAt(1) ? > 0, peopleAt(1) ? > 0");
    }

    private static void promise5SetFan() {
        effect("setFan", Scenes::gassy, m -> m.setFan(8),
                "airByPaths(1) 75 > 6, airByPaths(2) 25 > 2, airOf(1) 75 > 6, airOf(2) 25 > 2, "
                + "fan 100 > 8, minutesToAlarm(1) NoSuchElementException > 1");
        effect("setFan in a trip", EffectsTest::busy, m -> m.setFan(12),
                "airByPaths(1) 45 > 9, airByPaths(3) 15 > 3, airOf(1) 45 > 9, airOf(3) 15 > 3, "
                + "fan 60 > 12, minutesToAlarm(3) NoSuchElementException > 48");
        effect("setFan to what it was", EffectsTest::busy, m -> m.setFan(60), "");
        effect("setFan before a flight", EffectsTest::uneasy, m -> m.setFan(100),
                "airByPaths(1) 36 > 60, airByPaths(2) 24 > 40, airOf(1) 36 > 60, airOf(2) 24 > 40, "
                + "fan 60 > 100, waitFor(2) 9 > 8, waitFor(3) 19 > 18");
    }

    private static void promise6SetDoor() {
        effect("setDoor to close it", EffectsTest::busy, m -> m.setDoor(1, false),
                "airByPaths(1) 45 > 0, airByPaths(3) 15 > 60, airOf(1) 45 > 0, airOf(3) 15 > 60, "
                + "door 1 true > false, minutesToAlarm(1) NoSuchElementException > 48");
        effect("setDoor to open it", EffectsTest::busy, m -> m.setDoor(2, true),
                "airByPaths(1) 45 > 30, airByPaths(2) 0 > 20, airByPaths(3) 15 > 10, "
                + "airOf(1) 45 > 30, airOf(2) 0 > 20, airOf(3) 15 > 10, "
                + "door 2 false > true, minutesToAlarm(2) 47 > NoSuchElementException");
        effect("setDoor to close a closed one", EffectsTest::busy, m -> m.setDoor(2, false), "");
        effect("setDoor to open an open one", EffectsTest::busy, m -> m.setDoor(1, true), "");
        effect("setDoor before a flight", EffectsTest::uneasy, m -> m.setDoor(2, false),
                "airByPaths(1) 36 > 60, airByPaths(2) 24 > 0, airOf(1) 36 > 60, airOf(2) 24 > 0, "
                + "door 2 true > false, minutesToAlarm(2) NoSuchElementException > 8, waitFor(2) 9 > 8, "
                + "waitFor(3) 19 > 29");
    }

    private static void promise9SetLimit() {
        effect("setLimit", Scenes::alarmed, m -> m.setLimit(200),
                "endangered 0 > 12, isAlarm(1) false > true, limit 300 > 200, minutesToAlarm(1) 1 > 0");
        effect("setLimit in a trip", EffectsTest::busy, m -> m.setLimit(1000),
                "limit 500 > 1000, minutesToAlarm(2) 47 > 97");
        effect("setLimit before a flight", EffectsTest::uneasy, m -> m.setLimit(104),
                "isAlarm(3) true > false, limit 100 > 104, minutesToAlarm(3) 0 > 1");
    }

    private static void promise17Hire() {
        effect("hire", EffectsTest::busy, m -> m.hire(3), "peopleAt(0) 30 > 33, peopleTotal 40 > 43");
        effect("a first hire", Scenes::empty, m -> m.hire(99), "peopleAt(0) 0 > 99, peopleTotal 0 > 99");
        effect("hire before a flight", EffectsTest::uneasy, m -> m.hire(99),
                "peopleAt(0) 30 > 129, peopleTotal 40 > 139");
    }

    private static void promise22Blast() {
        effect("blast", Scenes::quiet, m -> m.blast(1, 10),
                "gasOf(1) 0 > 50, gasShare(1) 0 > 500, gasTotal 0 > 50, isAlarm(1) false > true, "
                + "isClosed(1) false > true, meanShare 0.0 > 166.66666666666666, "
                + "minutesToAlarm(1) NoSuchElementException > 0, oreAt(1) 0 > 30");
        effect("blast in a trip", EffectsTest::busy, m -> m.blast(2, 1),
                "gasOf(2) 6 > 11, gasShare(2) 30 > 55, gasTotal 43 > 48, isClosed(2) false > true, "
                + "meanShare 53.333333333333336 > 61.666666666666664, minutesToAlarm(2) 47 > 45, "
                + "oreAt(2) 0 > 3, waitFor(1) 18 > 17, waitFor(3) 8 > UnsupportedOperationException");
        effect("blast before a flight", EffectsTest::uneasy, m -> m.blast(2, 1),
                "gasOf(2) 4 > 9, gasShare(2) 20 > 45, gasTotal 55 > 60, isClosed(2) false > true, "
                + "meanShare 77.66666666666667 > 86.0, oreAt(2) 0 > 3, "
                + "waitFor(2) 9 > UnsupportedOperationException, waitFor(3) 19 > 18");
    }

    private static void promise24SetSpeed() {
        effect("setSpeed in a trip", EffectsTest::busy, m -> m.setSpeed(100),
                "speed 50 > 100, waitFor(1) 18 > 12, waitFor(3) 8 > 6");
        effect("setSpeed before a flight", EffectsTest::uneasy, m -> m.setSpeed(100),
                "speed 50 > 100, waitFor(2) 9 > 6, waitFor(3) 19 > 12");
    }

    private static void promises25To27Requests() {
        effect("sendDown", EffectsTest::busy, m -> m.sendDown(1, 5),
                "next request 4 > 5, waitFor(1) 18 > 29, waitFor(4) ? > 16, "
                + "waiting 1 3 > 1 3 4, waitingCount 2 > 3");
        effect("callUp", EffectsTest::busy, m -> m.callUp(1, 5),
                "next request 4 > 5, waitFor(1) 18 > 29, waitFor(4) ? > 14, "
                + "waiting 1 3 > 1 3 4, waitingCount 2 > 3");
        effect("hoistOre", EffectsTest::busy, m -> m.hoistOre(3),
                "next request 4 > 5, waitFor(4) ? > UnsupportedOperationException, "
                + "waiting 1 3 > 1 3 4, waitingCount 2 > 3");
        effect("a first request", Scenes::quiet, m -> m.sendDown(3, 5),
                "next request 0 > 1, waitFor(0) ? > 5, waiting  > 0, waitingCount 0 > 1");
        effect("sendDown before a flight", EffectsTest::uneasy, m -> m.sendDown(2, 1),
                "next request 4 > 5, waitFor(3) 19 > 30, waitFor(4) ? > 20, waiting 1 2 3 > 1 2 3 4, "
                + "waitingCount 3 > 4");
        effect("callUp before a flight", EffectsTest::uneasy, m -> m.callUp(1, 1),
                "next request 4 > 5, waitFor(4) ? > UnsupportedOperationException, waiting 1 2 3 > 1 2 3 4, "
                + "waitingCount 3 > 4");
        effect("hoistOre before a flight", EffectsTest::uneasy, m -> m.hoistOre(3),
                "next request 4 > 5, waitFor(4) ? > UnsupportedOperationException, waiting 1 2 3 > 1 2 3 4, "
                + "waitingCount 3 > 4");
    }

    private static void promise28Cancel() {
        effect("cancel of the oldest one", EffectsTest::busy, m -> m.cancel(1),
                "waitFor(1) 18 > ?, waiting 1 3 > 3, waitingCount 2 > 1");
        effect("cancel of the latest one", EffectsTest::busy, m -> m.cancel(3),
                "waitFor(1) 18 > 17, waitFor(3) 8 > ?, waiting 1 3 > 1, waitingCount 2 > 1");
        effect("cancel before a flight", EffectsTest::uneasy, m -> m.cancel(2),
                "waitFor(2) 9 > ?, waitFor(3) 19 > 18, waiting 1 2 3 > 1 3, waitingCount 3 > 2");
    }

    private static void promise31AMinuteWithoutTrip() {
        effect("a minute", Scenes::quiet, m -> m.pass(1), "clock 0 > 1");
        effect("a minute of an empty mine", Scenes::empty, m -> m.pass(1), "clock 0 > 1");
        effect("a minute of gas", Scenes::gassy, m -> m.pass(1),
                "clock 0 > 1, gasOf(1) 0 > 1, gasOf(2) 0 > 3, gasShare(1) 0 > 10, gasShare(2) 0 > 60, "
                + "gasTotal 0 > 7, isAlarm(2) false > true, meanShare 0.0 > 35.0, minutesToAlarm(2) 1 > 0, "
                + "ventedTotal 0 > 3");
    }

    private static void promise31AMinuteOfATripDown() {
        Supplier<MineHoist> asked = with(Scenes::quiet, m -> m.sendDown(2, 12));
        effect("the first minute down", asked, m -> m.pass(1),
                "clock 0 > 1, peopleAt(0) 40 > 28, "
                + "tripKind - > d, tripLevel NoSuchElementException > 2, tripLoad NoSuchElementException > 12, "
                + "tripRest NoSuchElementException > 3, waitFor(0) 4 > 3, waiting 0 > , waitingCount 1 > 0");
        effect("the second minute down", with(asked, m -> m.pass(1)), m -> m.pass(1),
                "clock 1 > 2, tripRest 3 > 2, waitFor(0) 3 > 2");
        effect("the last minute down", with(asked, m -> m.pass(3)), m -> m.pass(1),
                "cageLevel 0 > 2, clock 3 > 4, doneCount 0 > 1, peopleAt(2) 0 > 12, "
                + "tripKind d > -, tripLevel 2 > NoSuchElementException, tripLoad 12 > NoSuchElementException, "
                + "tripRest 1 > NoSuchElementException, waitFor(0) 1 > ?");
        effect("a trip down of two minutes", with(asked, m -> m.setSpeed(500)), m -> m.pass(2),
                "cageLevel 0 > 2, clock 0 > 2, doneCount 0 > 1, peopleAt(0) 40 > 28, "
                + "peopleAt(2) 0 > 12, waitFor(0) 2 > ?, waiting 0 > , waitingCount 1 > 0");
    }

    private static void promise31AMinuteOfATripUp() {
        Supplier<MineHoist> asked = with(Scenes::peopleBelow, m -> m.callUp(2, 4));
        effect("the first minute up", asked, m -> m.pass(1),
                "clock 4 > 5, peopleAt(2) 10 > 6, "
                + "tripKind - > u, tripLevel NoSuchElementException > 2, tripLoad NoSuchElementException > 4, "
                + "tripRest NoSuchElementException > 3, waitFor(1) 4 > 3, waiting 1 > , waitingCount 1 > 0");
        effect("the last minute up", with(asked, m -> m.pass(3)), m -> m.pass(1),
                "cageLevel 2 > 0, clock 7 > 8, doneCount 1 > 2, peopleAt(0) 30 > 34, "
                + "tripKind u > -, tripLevel 2 > NoSuchElementException, tripLoad 4 > NoSuchElementException, "
                + "tripRest 1 > NoSuchElementException, waitFor(1) 1 > ?");
    }

    private static void promise31AMinuteOfATripOfOre() {
        Supplier<MineHoist> asked = with(Scenes::blasted, m -> {
            m.setFan(0);
            m.hoistOre(1);
        });
        effect("the first minute of ore", asked, m -> m.pass(1),
                "clock 0 > 1, oreAt(1) 30 > 10, "
                + "tripKind - > o, tripLevel NoSuchElementException > 1, tripLoad NoSuchElementException > 20, "
                + "tripRest NoSuchElementException > 2, waitFor(0) 3 > 2, waiting 0 > , waitingCount 1 > 0");
        effect("the last minute of ore", with(asked, m -> m.pass(2)), m -> m.pass(1),
                "clock 2 > 3, doneCount 0 > 1, oreAt(0) 0 > 20, "
                + "tripKind o > -, tripLevel 1 > NoSuchElementException, tripLoad 20 > NoSuchElementException, "
                + "tripRest 1 > NoSuchElementException, waitFor(0) 1 > ?");
    }

    private static void promise31AMinuteOfAFlight() {
        effect("the first minute of a flight", Scenes::alarmed, m -> m.pass(1),
                "clock 2 > 3, gasOf(1) 2 > 3, gasShare(1) 200 > 300, gasTotal 2 > 3, "
                + "isAlarm(1) false > true, meanShare 200.0 > 300.0, minutesToAlarm(1) 1 > 0, peopleAt(1) 12 > 0, "
                + "tripKind - > f, tripLevel NoSuchElementException > 1, tripLoad NoSuchElementException > 12, "
                + "tripRest NoSuchElementException > 1");
        effect("the last minute of a flight", with(Scenes::alarmed, m -> m.pass(1)), m -> m.pass(1),
                "cageLevel 1 > 0, clock 3 > 4, doneCount 1 > 2, gasOf(1) 3 > 4, gasShare(1) 300 > 400, "
                + "gasTotal 3 > 4, meanShare 300.0 > 400.0, peopleAt(0) 18 > 30, "
                + "tripKind f > -, tripLevel 1 > NoSuchElementException, tripLoad 12 > NoSuchElementException, "
                + "tripRest 1 > NoSuchElementException");
    }

    private static void promise31AMinuteWithDroppedRequests() {
        Supplier<MineHoist> asked = with(Scenes::quiet, m -> {
            m.callUp(1, 1);
            m.hoistOre(2);
        });
        effect("a minute that drops two requests", asked, m -> m.pass(1),
                "clock 0 > 1, droppedCount 0 > 2, waitFor(0) UnsupportedOperationException > ?, "
                + "waitFor(1) UnsupportedOperationException > ?, waiting 0 1 > , waitingCount 2 > 0");
    }

    private static void promise42WriteTrip() {
        effect("writeTrip in a trip", EffectsTest::busy, MineHoist::writeTrip, "line 'none' > 'up 4 L1 2min'");
        effect("writeTrip without a trip", Scenes::empty, MineHoist::writeTrip, "line '' > 'none'");
        effect("writeTrip of the same line", Scenes::quiet, MineHoist::writeTrip, "");
        effect("writeTrip before a flight", EffectsTest::uneasy, MineHoist::writeTrip, "");
    }
}
