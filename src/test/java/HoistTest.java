import java.util.NoSuchElementException;

/** Promises 31 to 39: minutes and trips. */
final class HoistTest {
    public static void main(String[] args) {
        promise31Pass();
        promise31PassRefused();
        promise32Clock();
        promise33TripKind();
        promises34To36Trip();
        promises34To36Refused();
        promise36RestOfManyWays();
        promise37CageLevel();
        promise38DoneCount();
        promise39DroppedCount();
        flightsComeFirst();
        flightsGoWhereTheShareIsGreatest();
        flightsTakeTwelve();
        peopleComeBeforeOre();
        requestsTakeWhatIsThere();
        Check.end("HoistTest");
    }

    private static void promise31Pass() {
        MineHoist x = Scenes.gassy();
        Check.due("pass(1)", 1, x.pass(1));
        Check.due("pass(60)", 61, x.pass(60));
        MineHoist y = Scenes.late(4940);
        Check.due("pass to 5000", 5000, y.pass(60));
        MineHoist z = Scenes.late(4999);
        Check.due("pass to 5000 by a minute", 5000, z.pass(1));
        MineHoist once = Scenes.gassy();
        MineHoist often = Scenes.gassy();
        once.pass(20);
        for (int minute = 0; minute < 20; minute++) {
            often.pass(1);
        }
        Check.same("20 minutes at once and one by one", Snapshot.facts(often), Snapshot.facts(once));
    }

    private static void promise31PassRefused() {
        for (int minutes : new int[] {0, -1, 61, Integer.MIN_VALUE, Integer.MAX_VALUE}) {
            Check.refused("pass(" + minutes + ")", IllegalArgumentException.class, Scenes::goingDown,
                    m -> m.pass(minutes));
            Check.refused("pass(" + minutes + ") at 5000", IllegalArgumentException.class,
                    () -> Scenes.late(5000), m -> m.pass(minutes));
        }
        Check.refused("pass(1) at 5000", IllegalStateException.class, () -> Scenes.late(5000), m -> m.pass(1));
        Check.refused("pass(2) at 4999", IllegalStateException.class, () -> Scenes.late(4999), m -> m.pass(2));
        Check.refused("pass(60) at 4941", IllegalStateException.class, () -> Scenes.late(4941), m -> m.pass(60));
    }

    private static void promise32Clock() {
        MineHoist x = Scenes.quiet();
        x.pass(17);
        x.pass(4);
        Check.due("clock", 21, x.clock());
        x.waitFor(x.sendDown(1, 1));
        Check.outcome(x, m -> m.minutesToAlarm(1));
        Check.due("clock after looking ahead", 21, x.clock());
        Check.due("clock of a new mine", 0, new MineHoist().clock());
    }

    private static void promise33TripKind() {
        MineHoist x = Scenes.quiet();
        Check.due("tripKind without a trip", '-', x.tripKind());
        x.sendDown(1, 3);
        Check.due("tripKind before the minute", '-', x.tripKind());
        x.pass(1);
        Check.due("tripKind down", 'd', x.tripKind());
        x.pass(1);
        Check.due("tripKind when it has ended", '-', x.tripKind());
        x.callUp(1, 3);
        x.pass(1);
        Check.due("tripKind up", 'u', x.tripKind());
        x.pass(1);
        x.setLimit(1000);
        x.blast(2, 1);
        x.hoistOre(2);
        x.pass(1);
        Check.due("tripKind ore", 'o', x.tripKind());
        MineHoist y = Scenes.alarmed();
        y.pass(1);
        Check.due("tripKind flight", 'f', y.tripKind());
    }

    private static void promises34To36Trip() {
        MineHoist x = Scenes.quiet();
        x.sendDown(3, 7);
        x.pass(1);
        Check.due("trip down", "d 3 7 4", Snapshot.trip(x));
        x.pass(3);
        Check.due("trip down, 3 minutes later", "d 3 7 1", Snapshot.trip(x));
        x.pass(1);
        Check.due("peopleAt(3) when it has ended", 7, x.peopleAt(3));
        x.callUp(3, 2);
        x.pass(1);
        Check.due("trip up", "u 3 2 4", Snapshot.trip(x));
        x.pass(4);
        x.setLimit(1000);
        x.blast(2, 20);
        x.hoistOre(2);
        x.pass(1);
        Check.due("trip of ore", "o 2 20 6", Snapshot.trip(x));
        x.pass(6);
        Check.due("oreAt(0) when it has ended", 20, x.oreAt(0));
        MineHoist y = Scenes.alarmed();
        y.pass(1);
        Check.due("flight", "f 1 12 1", Snapshot.trip(y));
    }

    private static void promises34To36Refused() {
        Check.refused("tripLevel at first", NoSuchElementException.class, Scenes::empty, MineHoist::tripLevel);
        Check.refused("tripLoad at first", NoSuchElementException.class, Scenes::empty, MineHoist::tripLoad);
        Check.refused("tripRest at first", NoSuchElementException.class, Scenes::empty, MineHoist::tripRest);
        Check.refused("tripLevel while all wait", NoSuchElementException.class, Scenes::crowded,
                MineHoist::tripLevel);
        Check.refused("tripLevel when it has ended", NoSuchElementException.class, Scenes::peopleBelow,
                MineHoist::tripLevel);
        Check.refused("tripLoad when it has ended", NoSuchElementException.class, Scenes::peopleBelow,
                MineHoist::tripLoad);
        Check.refused("tripRest when it has ended", NoSuchElementException.class, Scenes::peopleBelow,
                MineHoist::tripRest);
    }

    /** The ways are rounded up one by one: 210 from level 3 to level 1, 100 on to the surface. */
    private static void promise36RestOfManyWays() {
        MineHoist x = Scenes.quiet();
        x.sendDown(1, 5);
        x.sendDown(3, 5);
        x.pass(2);
        x.pass(1);
        Check.due("from level 1 to the surface and to level 3: 1 + 1 + 4", "d 3 5 5", Snapshot.trip(x));
        x.pass(5);
        x.callUp(1, 5);
        x.pass(1);
        Check.due("from level 3 to level 1 and to the surface: 1 + 3 + 1", "u 1 5 4", Snapshot.trip(x));
        x.pass(4);
        x.setSpeed(110);
        x.callUp(3, 5);
        x.pass(1);
        Check.due("from the surface to level 3 and back: 1 + 3 + 3", "u 3 5 6", Snapshot.trip(x));
        MineHoist y = Scenes.peopleBelow();
        y.setSpeed(250);
        y.callUp(2, 1);
        y.pass(1);
        Check.due("a way of just one minute", "u 2 1 1", Snapshot.trip(y));
        MineHoist z = Scenes.peopleBelow();
        z.setSpeed(249);
        z.callUp(2, 1);
        z.pass(1);
        Check.due("a way of a metre more", "u 2 1 2", Snapshot.trip(z));
    }

    private static void promise37CageLevel() {
        MineHoist x = Scenes.quiet();
        x.sendDown(2, 5);
        x.pass(3);
        Check.due("cageLevel in the first trip", 0, x.cageLevel());
        x.pass(1);
        Check.due("cageLevel when it has ended", 2, x.cageLevel());
        x.callUp(2, 5);
        x.pass(3);
        Check.due("cageLevel in the trip up", 2, x.cageLevel());
        x.pass(1);
        Check.due("cageLevel when it is up", 0, x.cageLevel());
        MineHoist y = Scenes.alarmed();
        Check.due("cageLevel before a flight", 1, y.cageLevel());
        y.pass(2);
        Check.due("cageLevel after a flight", 0, y.cageLevel());
        MineHoist z = Scenes.peopleBelow();
        z.blast(1, 1);
        z.hoistOre(1);
        z.pass(4);
        Check.due("cageLevel after ore", 0, z.cageLevel());
    }

    private static void promise38DoneCount() {
        MineHoist x = Scenes.quiet();
        x.sendDown(1, 5);
        x.pass(1);
        Check.due("doneCount in the trip", 0, x.doneCount());
        x.pass(1);
        Check.due("doneCount after it", 1, x.doneCount());
        x.callUp(2, 5);
        x.pass(5);
        Check.due("doneCount after a dropped request", 1, x.doneCount());
        x.callUp(1, 5);
        x.pass(5);
        Check.due("doneCount after a trip up", 2, x.doneCount());
        MineHoist y = Scenes.alarmed();
        y.pass(2);
        Check.due("doneCount after a flight", 2, y.doneCount());
        MineHoist z = Scenes.blasted();
        z.hoistOre(1);
        z.pass(3);
        Check.due("doneCount after ore", 1, z.doneCount());
    }

    private static void promise39DroppedCount() {
        MineHoist x = Scenes.quiet();
        x.callUp(1, 1);
        x.hoistOre(2);
        x.callUp(3, 1);
        x.sendDown(1, 1);
        x.callUp(2, 1);
        Check.due("droppedCount before the minute", 0, x.droppedCount());
        x.pass(1);
        Check.due("droppedCount of those before the one that is taken", 2, x.droppedCount());
        Check.due("waitingCount then", 2, x.waitingCount());
        x.pass(1);
        Check.due("droppedCount while the hoist has its trip", 2, x.droppedCount());
        x.pass(1);
        Check.due("droppedCount of all that are looked at in a minute", 4, x.droppedCount());
        MineHoist y = Scenes.quiet();
        y.setLimit(1000);
        y.sendDown(2, 1);
        y.blast(2, 1);
        y.pass(1);
        Check.due("droppedCount of one to a closed level", 1, y.droppedCount());
        MineHoist z = Scenes.quiet();
        z.setFan(0);
        z.setLimit(1000);
        z.blast(2, 1);
        z.pass(30);
        z.sendDown(2, 1);
        z.setLimit(50);
        z.pass(1);
        Check.due("droppedCount of one to a level with an alarm", 1, z.droppedCount());
        MineHoist all = Scenes.quiet();
        for (int i = 0; i < 8; i++) {
            all.hoistOre(1 + i % 3);
        }
        all.pass(1);
        Check.due("droppedCount of all 8", 8, all.droppedCount());
        Check.due("waitingCount of all 8", 0, all.waitingCount());
    }

    private static void flightsComeFirst() {
        MineHoist x = Scenes.alarmed();
        x.pass(1);
        Check.due("flight before the request that waits", "f 1 12 1", Snapshot.trip(x));
        Check.due("droppedCount in the flight", 0, x.droppedCount());
        Check.due("waitingCount in the flight", 1, x.waitingCount());
        x.pass(1);
        Check.due("peopleAt(0) after the flight", 30, x.peopleAt(0));
        x.pass(1);
        Check.due("droppedCount after the flight", 1, x.droppedCount());
        MineHoist y = Scenes.goingDown();
        y.sendDown(1, 1);
        y.setFan(0);
        y.blast(3, 20);
        y.pass(3);
        y.pass(1);
        Check.due("no flight from a level where nobody is", "d 1 1 4", Snapshot.trip(y));
    }

    /** People on levels 1, 2 and 3 with the inflows, all of size 500, and the limit at 2 from then on. */
    private static MineHoist threeBelow(int first, int second, int third) {
        MineHoist x = new MineHoist();
        x.addLevel(10, 500, 1, first);
        x.addLevel(20, 500, 1, second);
        x.addLevel(30, 500, 1, third);
        x.setFan(0);
        x.setLimit(1000);
        x.hire(9);
        x.sendDown(1, 1);
        x.sendDown(2, 2);
        x.sendDown(3, 3);
        x.pass(8);
        x.setLimit(2);
        return x;
    }

    private static void flightsGoWhereTheShareIsGreatest() {
        MineHoist x = threeBelow(1, 3, 2);
        x.pass(1);
        Check.due("flight from the greatest share", "f 2 2 2", Snapshot.trip(x));
        x.pass(3);
        Check.due("flight from the next one", "f 3 3 2", Snapshot.trip(x));
        x.pass(3);
        Check.due("flight from the last one", "f 1 1 2", Snapshot.trip(x));
        MineHoist y = threeBelow(1, 2, 2);
        y.pass(1);
        Check.due("flight from the highest of two with the same share", "f 2 2 2", Snapshot.trip(y));
        MineHoist z = threeBelow(0, 0, 1);
        z.pass(1);
        Check.due("flight from the one level with an alarm", "f 3 3 1", Snapshot.trip(z));
        MineHoist none = threeBelow(0, 0, 0);
        none.pass(1);
        Check.due("no flight without an alarm", '-', none.tripKind());
        MineHoist shares = new MineHoist();
        shares.addLevel(10, 500, 1, 3);
        shares.addLevel(20, 100, 1, 1);
        shares.setFan(0);
        shares.setLimit(1000);
        shares.hire(2);
        shares.sendDown(1, 1);
        shares.sendDown(2, 1);
        shares.pass(5);
        shares.setLimit(1);
        shares.pass(1);
        Check.due("the share counts, not the gas", 2, shares.tripLevel());
    }

    private static void flightsTakeTwelve() {
        MineHoist x = new MineHoist();
        x.addLevel(100, 500, 1, 1);
        x.setFan(0);
        x.setLimit(1000);
        x.hire(30);
        x.sendDown(1, 12);
        x.sendDown(1, 8);
        x.pass(5);
        Check.due("peopleAt(1)", 20, x.peopleAt(1));
        x.setLimit(1);
        x.pass(1);
        Check.due("flight of 12", "f 1 12 1", Snapshot.trip(x));
        Check.due("peopleAt(1) in the flight", 8, x.peopleAt(1));
        x.pass(2);
        Check.due("flight of the others", "f 1 8 2", Snapshot.trip(x));
        x.pass(2);
        Check.due("peopleAt(0) after both", 30, x.peopleAt(0));
    }

    private static void peopleComeBeforeOre() {
        MineHoist x = Scenes.blasted();
        x.hoistOre(1);
        x.sendDown(2, 1);
        x.hoistOre(1);
        x.sendDown(3, 1);
        x.pass(1);
        Check.due("people before ore", "d 2 1 3", Snapshot.trip(x));
        x.pass(4);
        Check.due("the later people before ore", "d 3 1 7", Snapshot.trip(x));
        x.pass(8);
        Check.due("then ore", "o 1 20 4", Snapshot.trip(x));
        x.pass(5);
        Check.due("then the last of the ore", "o 1 10 2", Snapshot.trip(x));
    }

    private static void requestsTakeWhatIsThere() {
        MineHoist x = new MineHoist();
        x.addLevel(100, 100, 1, 0);
        x.hire(5);
        x.sendDown(1, 12);
        x.pass(1);
        Check.due("a request down of more than are there", "d 1 5 1", Snapshot.trip(x));
        x.pass(1);
        x.callUp(1, 6);
        x.pass(1);
        Check.due("a request up of more than are there", "u 1 5 1", Snapshot.trip(x));
        x.pass(1);
        x.sendDown(1, 3);
        x.pass(2);
        x.callUp(1, 2);
        x.pass(1);
        Check.due("a request up of fewer than are there", "u 1 2 1", Snapshot.trip(x));
    }
}
