import java.util.NoSuchElementException;

/** Promises 40 and 41: waitFor and isConsistent. */
final class AheadTest {
    public static void main(String[] args) {
        promise40WaitFor();
        promise40OfAllThatWait();
        promise40CountsThoseInTheCage();
        promise40CountsAFlight();
        promise40ComesTrue();
        promise40NoSuchRequest();
        promise40Dropped();
        promise40ClosedForThirtyMinutes();
        promise40Within500Minutes();
        promise40ChangesNothing();
        promise41IsConsistent();
        Check.end("AheadTest");
    }

    private static void promise40WaitFor() {
        MineHoist x = Scenes.quiet();
        x.sendDown(1, 5);
        x.sendDown(3, 5);
        x.callUp(1, 5);
        Check.due("waitFor the first: 1 + 0 + 1", 2, x.waitFor(0));
        Check.due("waitFor the second: 1 + 1 + 4 more", 8, x.waitFor(1));
        Check.due("waitFor the third: 1 + 3 + 1 more", 13, x.waitFor(2));
        x.pass(1);
        Check.due("waitFor the present trip", 1, x.waitFor(0));
        Check.due("waitFor the second a minute later", 7, x.waitFor(1));
        x.setSpeed(310);
        Check.due("waitFor with another speed: 1 and 1 + 1 + 1", 4, x.waitFor(1));
        x.cancel(1);
        Check.due("waitFor the third without the second: 1 and 1 + 0 + 1", 3, x.waitFor(2));
        MineHoist y = Scenes.blasted();
        y.hoistOre(1);
        y.sendDown(2, 5);
        Check.due("waitFor ore behind people: 4 and 1 + 2 + 1", 8, y.waitFor(0));
        MineHoist z = Scenes.alarmed();
        z.setLimit(900);
        Check.due("waitFor behind no flight: 1 + 1 + 1", 3, z.waitFor(1));
    }

    /** The first trip is 1 + 0 + 1 minutes, each one behind it 1 + 1 + 1. */
    private static void promise40OfAllThatWait() {
        MineHoist x = Scenes.crowded();
        for (int request = 0; request < 8; request++) {
            Check.due("waitFor(" + request + ") of 8", 2 + 3 * request, x.waitFor(request));
        }
        MineHoist y = Scenes.quiet();
        for (int request = 0; request < 40; request++) {
            y.sendDown(1, 1);
            Check.due("waitFor(" + request + ") behind none", 2, y.waitFor(request));
            y.cancel(request);
        }
    }

    /** 5 people come to level 2 in 3 minutes; the trips up for 3 and 2 of them are 4 and 7 minutes. */
    private static void promise40CountsThoseInTheCage() {
        MineHoist x = Scenes.quiet();
        x.sendDown(2, 5);
        x.pass(1);
        x.callUp(2, 3);
        x.callUp(2, 2);
        x.callUp(2, 1);
        Check.due("waitFor the first up", 7, x.waitFor(1));
        Check.due("waitFor the second up", 14, x.waitFor(2));
        Check.due("waitFor the third up, when nobody is left", "UnsupportedOperationException",
                Check.outcome(x, m -> m.waitFor(3)));
    }

    /** A flight from the deepest level of six in its third minute: 1 + 0 + 1, then 1 + 0 + 1 for the request. */
    private static void promise40CountsAFlight() {
        MineHoist x = Scenes.twoOnTheDeepest();
        Check.due("waitFor behind a flight", 4, x.waitFor(1));
        x.pass(1);
        Check.due("the flight", "f 6 2 1", Snapshot.trip(x));
        Check.due("waitFor in the flight", 3, x.waitFor(1));
    }

    private static void promise40ComesTrue() {
        for (int request = 0; request < 4; request++) {
            MineHoist x = Scenes.blasted();
            x.sendDown(2, 8);
            x.sendDown(3, 8);
            x.callUp(2, 3);
            x.hoistOre(1);
            int minutes = x.waitFor(request);
            x.pass(minutes - 1);
            Check.due("waitFor(" + request + ") a minute before its end", 1, x.waitFor(request));
            Check.due("doneCount a minute before the end of " + request, request, x.doneCount());
            x.pass(1);
            Check.due("doneCount at the end of " + request, request + 1, x.doneCount());
        }
    }

    private static void promise40NoSuchRequest() {
        for (int request : new int[] {-1, 8, Integer.MIN_VALUE, Integer.MAX_VALUE}) {
            Check.refused("waitFor(" + request + ")", NoSuchElementException.class, Scenes::crowded,
                    m -> m.waitFor(request));
        }
        Check.refused("waitFor(0) of an empty mine", NoSuchElementException.class, Scenes::empty,
                m -> m.waitFor(0));
        Check.refused("waitFor(-1) in a flight", NoSuchElementException.class, () -> {
            MineHoist x = Scenes.alarmed();
            x.pass(1);
            return x;
        }, m -> m.waitFor(-1));
        MineHoist flight = Scenes.alarmed();
        flight.pass(1);
        for (int request = 0; request < 60; request++) {
            Check.due("waitFor(" + request + ") in a flight", request == 1 ? "UnsupportedOperationException"
                    : "NoSuchElementException", outcomeOfWait(flight, request));
        }
        for (int request : new int[] {99, 100, 199, 200, 255, 256, 499, 500, 4999, 5000}) {
            Check.due("waitFor(" + request + ") in a flight", "NoSuchElementException", outcomeOfWait(flight, request));
        }
        Check.refused("waitFor a canceled one", NoSuchElementException.class, () -> {
            MineHoist x = Scenes.crowded();
            x.cancel(7);
            return x;
        }, m -> m.waitFor(7));
        Check.refused("waitFor one whose trip has ended", NoSuchElementException.class, Scenes::peopleBelow,
                m -> m.waitFor(0));
        Check.refused("waitFor a dropped one", NoSuchElementException.class, () -> {
            MineHoist x = Scenes.quiet();
            x.callUp(1, 1);
            x.pass(1);
            return x;
        }, m -> m.waitFor(0));
    }

    private static String outcomeOfWait(MineHoist x, int request) {
        return Check.outcome(x, m -> m.waitFor(request));
    }

    private static void promise40Dropped() {
        Check.refused("waitFor one up from nobody", UnsupportedOperationException.class, () -> {
            MineHoist x = Scenes.quiet();
            x.callUp(1, 1);
            return x;
        }, m -> m.waitFor(0));
        Check.refused("waitFor ore that is not there", UnsupportedOperationException.class, () -> {
            MineHoist x = Scenes.goingDown();
            x.hoistOre(1);
            return x;
        }, m -> m.waitFor(1));
        Check.refused("waitFor one down to a closed level", UnsupportedOperationException.class, () -> {
            MineHoist x = Scenes.goingDown();
            x.setLimit(1000);
            x.sendDown(1, 1);
            x.blast(1, 1);
            return x;
        }, m -> m.waitFor(1));
        Check.refused("waitFor one that the alarm will drop", UnsupportedOperationException.class,
                Scenes::alarmed, m -> m.waitFor(1));
        Check.refused("waitFor one down when nobody will be on the surface", UnsupportedOperationException.class,
                AheadTest::nobodyIsLeft, m -> m.waitFor(1));
        MineHoist left = nobodyIsLeft();
        left.cancel(1);
        left.callUp(1, 1);
        left.sendDown(1, 2);
        Check.due("waitFor one down when one will be back: 2 and 2 and 2", 6, left.waitFor(3));
        MineHoist y = Scenes.goingDown();
        y.callUp(2, 12);
        Check.due("waitFor one up from where somebody will be: 3 and 1 + 0 + 3", 7, y.waitFor(1));
        MineHoist z = Scenes.quiet();
        z.setLimit(1000);
        z.setSpeed(10);
        z.sendDown(3, 1);
        z.sendDown(1, 1);
        z.blast(1, 1);
        Check.due("waitFor one to a level that is open by then: 32 and 1 + 31 + 10", 74, z.waitFor(1));
    }

    /** All 5 people want to go down, and then another one. */
    private static MineHoist nobodyIsLeft() {
        MineHoist x = new MineHoist();
        x.addLevel(100, 100, 1, 0);
        x.hire(5);
        x.sendDown(1, 5);
        x.sendDown(1, 1);
        return x;
    }

    /** The first trip ends 30 minutes after the blast, so that the level is open for the second; or 29 after it. */
    private static void promise40ClosedForThirtyMinutes() {
        MineHoist x = closedFor(290);
        Check.due("waitFor the second when the level is open: 30 and 1 + 29 + 10", 70, x.waitFor(1));
        Check.refused("waitFor the second when the level is closed", UnsupportedOperationException.class,
                () -> closedFor(280), m -> m.waitFor(1));
    }

    private static MineHoist closedFor(int depth) {
        MineHoist x = new MineHoist();
        x.addLevel(100, 100, 1, 0);
        x.addLevel(depth, 100, 1, 0);
        x.setSpeed(10);
        x.setLimit(1000);
        x.hire(2);
        x.pass(40);
        x.sendDown(2, 1);
        x.sendDown(1, 1);
        x.blast(1, 1);
        return x;
    }

    /** The first trip is 1 + 200 minutes; the second 1 + 200 and the way down. */
    private static MineHoist deep(int depth) {
        MineHoist x = new MineHoist();
        x.addLevel(depth, 100, 1, 0);
        x.addLevel(2000, 100, 1, 0);
        x.setSpeed(10);
        x.hire(2);
        x.sendDown(2, 1);
        x.sendDown(1, 1);
        return x;
    }

    private static void promise40Within500Minutes() {
        Check.due("waitFor of 500 minutes", 500, deep(980).waitFor(1));
        Check.refused("waitFor of 501 minutes", UnsupportedOperationException.class, () -> deep(981),
                m -> m.waitFor(1));
        MineHoist x = deep(981);
        x.pass(1);
        Check.due("waitFor of 501 minutes a minute later", 500, x.waitFor(1));
        Check.due("waitFor of the first", 200, x.waitFor(0));
    }

    private static void promise40ChangesNothing() {
        MineHoist x = Scenes.alarmed();
        x.cancel(1);
        x.callUp(1, 3);
        x.setLimit(900);
        MineHoist y = Scenes.alarmed();
        y.cancel(1);
        y.callUp(1, 3);
        y.setLimit(900);
        for (int i = 0; i < 5; i++) {
            Check.due("waitFor again and again", 2, x.waitFor(2));
        }
        Check.same("what waitFor changes", Snapshot.facts(y), Snapshot.facts(x));
        x.pass(4);
        y.pass(4);
        Check.same("what waitFor changes 4 minutes later", Snapshot.facts(y), Snapshot.facts(x));
        Check.same("the settings that waitFor changes", Snapshot.settings(y), Snapshot.settings(x));
    }

    private static void promise41IsConsistent() {
        Check.due("isConsistent of an empty mine", true, Scenes.empty().isConsistent());
        Check.due("isConsistent at 5000", true, Scenes.late(5000).isConsistent());
        MineHoist x = Scenes.six();
        for (int step = 0; step < 90; step++) {
            x.setFan(step * 137 % 1001);
            x.setDoor(1 + step % 6, step % 4 != 0);
            if (!x.isClosed(1 + step % 5)) {
                x.blast(1 + step % 5, 1 + step % 20);
            }
            x.pass(1 + step % 7);
            Check.due("isConsistent, step " + step, true, x.isConsistent());
        }
    }
}
