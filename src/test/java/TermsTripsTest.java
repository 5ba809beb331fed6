/** The sentences of "Terms" on trips and minutes that name an edge, each with a test of its own. */
final class TermsTripsTest {
    public static void main(String[] args) {
        theCageIsAtTheSurfaceAtFirst();
        flightOnlyWithPeopleAndAlarm();
        flightFromTheGreatestShare();
        flightFromTheHighestOfSeveral();
        flightTakesAtMostTwelve();
        flightBeforeRequests();
        theLoadLeavesAndArrives();
        theRestOfATrip();
        theWayIsRoundedUp();
        speedForTripsThatBegin();
        oneTripEndsBeforeTheNextBegins();
        closedForThirtyMinutes();
        Check.end("TermsTripsTest");
    }

    /** The hoist has one cage, which is at the surface at first. */
    private static void theCageIsAtTheSurfaceAtFirst() {
        Check.due("cageLevel at first", 0, new MineHoist().cageLevel());
        MineHoist x = Scenes.depths(5, 100, 200);
        Check.due("cageLevel with levels", 0, x.cageLevel());
        x.sendDown(2, 1);
        x.pass(1);
        Check.due("the first trip: 1 + 0 + 2, less a minute", "d 2 1 2", Snapshot.trip(x));
        Check.due("cageLevel in the trip", 0, x.cageLevel());
        x.pass(2);
        Check.due("cageLevel after it", 2, x.cageLevel());
    }

    /** If there are people on levels with an alarm: in this minute, after its inflow and its air. */
    private static void flightOnlyWithPeopleAndAlarm() {
        MineHoist x = Scenes.shareOfHundred();
        x.setLimit(101);
        x.pass(1);
        Check.due("no flight with a share of 100, limit 101", "-", Snapshot.trip(x));
        MineHoist y = Scenes.shareOfHundred();
        y.setLimit(100);
        Check.due("isAlarm before the minute", false, y.isAlarm(1));
        y.pass(1);
        Check.due("a flight with a share of 100, limit 100", "f 1 5 1", Snapshot.trip(y));
        MineHoist z = Scenes.shareOfHundred();
        z.pass(1);
        z.setLimit(100);
        Check.due("isAlarm before the minute with air", true, z.isAlarm(1));
        z.setFan(10);
        z.pass(1);
        Check.due("no flight when the air has ended the alarm", "-", Snapshot.trip(z));
        MineHoist nobody = Scenes.shareOfHundred();
        nobody.callUp(1, 5);
        nobody.pass(2);
        nobody.setLimit(1);
        nobody.pass(1);
        Check.due("no flight from where nobody is", "-", Snapshot.trip(nobody));
        MineHoist surface = Scenes.depths(5, 100);
        surface.blast(1, 20);
        surface.pass(1);
        Check.due("no flight for people on the surface", "-", Snapshot.trip(surface));
    }

    /** It fetches them from the one of these levels with the greatest gas share. */
    private static void flightFromTheGreatestShare() {
        MineHoist lower = gassed(2, 3);
        lower.pass(1);
        Check.due("the lower of two levels", 2, lower.tripLevel());
        MineHoist upper = gassed(3, 2);
        upper.pass(1);
        Check.due("the upper of two levels", 1, upper.tripLevel());
        MineHoist empty = gassed(1, 2, 3);
        empty.callUp(3, 1);
        empty.setLimit(1000);
        empty.pass(5);
        empty.setLimit(2);
        empty.pass(1);
        Check.due("the greatest share where people are", 2, empty.tripLevel());
    }

    /** One on each of the levels of size 500 with these inflows, without air, and a limit of 2. */
    private static MineHoist gassed(int... inflows) {
        MineHoist x = new MineHoist();
        for (int i = 0; i < inflows.length; i++) {
            x.addLevel(100 * (i + 1), 500, 1, inflows[i]);
        }
        x.setFan(0);
        x.setLimit(1000);
        x.hire(inflows.length);
        for (int level = 1; level <= inflows.length; level++) {
            x.sendDown(level, 1);
        }
        x.pass(60);
        x.setLimit(2);
        return x;
    }

    /** Of several from the highest one. */
    private static void flightFromTheHighestOfSeveral() {
        MineHoist two = gassed(3, 3);
        two.pass(1);
        Check.due("the highest of two", 1, two.tripLevel());
        MineHoist six = gassed(1, 2, 4, 4, 3, 4);
        int[] dues = {3, 4, 6, 5, 2, 1};
        for (int due : dues) {
            six.pass(1);
            Check.due("the next level of six", due, six.tripLevel());
            six.pass(six.tripRest());
        }
        Check.due("people on the surface then", 6, six.peopleAt(0));
        six.pass(1);
        Check.due("no flight when all are fetched", "-", Snapshot.trip(six));
    }

    /** It takes all of them, but at most 12. */
    private static void flightTakesAtMostTwelve() {
        int[][] dues = {{1, 1, 0}, {11, 11, 0}, {12, 12, 0}, {13, 12, 1}, {24, 12, 12}, {25, 12, 13}};
        for (int[] due : dues) {
            MineHoist x = new MineHoist();
            x.addLevel(100, 500, 1, 1);
            x.setFan(0);
            x.setLimit(1000);
            x.hire(due[0]);
            Scenes.bring(x, 1, due[0]);
            x.setLimit(2);
            x.pass(1);
            Check.due("the flight with " + due[0] + " there", "f 1 " + due[1] + " 1", Snapshot.trip(x));
            Check.due("those who are left of " + due[0], due[2], x.peopleAt(1));
            Check.due("endangered of " + due[0], due[2], x.endangered());
            x.pass(1);
            Check.due("those on the surface of " + due[0], due[1], x.peopleAt(0));
            x.pass(1);
            Check.due("the next flight", due[2] > 0 ? 'f' : '-', x.tripKind());
        }
    }

    /** An alarm sends the hoist to fetch the people from there before all else; a trip that runs is not broken off. */
    private static void flightBeforeRequests() {
        MineHoist x = gassed(1, 1);
        x.setLimit(1000);
        x.sendDown(1, 1);
        x.callUp(1, 1);
        x.hoistOre(1);
        x.setLimit(2);
        x.pass(1);
        Check.due("the flight before the requests: 1 + 1 + 1, less a minute", "f 1 1 2", Snapshot.trip(x));
        Check.due("those that wait in the flight", "2 3 4", Snapshot.waiting(x));
        Check.due("dropped in the flight", 0, x.droppedCount());
        x.pass(4);
        Check.due("the second flight: 1 + 2 + 2, less two minutes", "f 2 1 3", Snapshot.trip(x));
        Check.due("those that wait in the second flight", "2 3 4", Snapshot.waiting(x));
        MineHoist y = gassed(1, 1);
        y.setLimit(1000);
        y.callUp(2, 1);
        y.pass(1);
        y.setLimit(2);
        Check.due("the trip before the alarm", "u 2 1 2", Snapshot.trip(y));
        y.pass(1);
        Check.due("the trip in the alarm", "u 2 1 1", Snapshot.trip(y));
        y.pass(2);
        Check.due("the flight after the trip", "f 1 1 2", Snapshot.trip(y));
    }

    /** The load leaves its place when the trip begins, and arrives when it ends. */
    private static void theLoadLeavesAndArrives() {
        MineHoist x = Scenes.depths(5, 100, 200);
        x.sendDown(1, 5);
        Check.due("on the surface before the trip", 5, x.peopleAt(0));
        x.pass(1);
        Check.due("on the surface in the trip", 0, x.peopleAt(0));
        Check.due("below in the trip", 0, x.peopleAt(1));
        Check.due("in all in the trip", 5, x.peopleTotal());
        x.pass(1);
        Check.due("below after the trip", 5, x.peopleAt(1));
        Check.due("in all after the trip", 5, x.peopleTotal());
        x.blast(2, 1);
        x.hoistOre(2);
        x.pass(1);
        Check.due("ore below in the trip", 0, x.oreAt(2));
        Check.due("ore on the surface in the trip", 0, x.oreAt(0));
        x.pass(x.tripRest());
        Check.due("ore on the surface after the trip", 3, x.oreAt(0));
    }

    /** The rest is 1, plus the way to where the load is, plus the way to where it goes. */
    private static void theRestOfATrip() {
        MineHoist x = Scenes.depths(30, 100, 250, 2000);
        x.sendDown(3, 1);
        x.pass(1);
        Check.due("down from the surface: 1 + 0 + 20", "d 3 1 20", Snapshot.trip(x));
        x.pass(20);
        x.callUp(3, 1);
        x.pass(1);
        Check.due("up from where the cage is: 1 + 0 + 20", "u 3 1 20", Snapshot.trip(x));
        x.pass(20);
        Scenes.bring(x, 2, 2);
        x.sendDown(1, 1);
        x.pass(1);
        Check.due("down with the cage on level 2: 1 + 3 + 1", "d 1 1 4", Snapshot.trip(x));
        x.pass(4);
        x.callUp(2, 1);
        x.pass(1);
        Check.due("up from a deeper level than the cage: 1 + 2 + 3", "u 2 1 5", Snapshot.trip(x));
        x.pass(5);
        x.sendDown(2, 1);
        x.pass(4);
        x.callUp(1, 1);
        x.pass(1);
        Check.due("up from a higher level than the cage: 1 + 2 + 1", "u 1 1 3", Snapshot.trip(x));
        MineHoist least = Scenes.depths(1, 10);
        least.setSpeed(500);
        least.sendDown(1, 1);
        least.pass(1);
        Check.due("the least rest of all: 1 + 0 + 1", "d 1 1 1", Snapshot.trip(least));
        least.pass(1);
        Check.due("it has ended then", 1, least.doneCount());
        MineHoist most = Scenes.depths(0, 2000);
        most.setSpeed(10);
        most.blast(1, 1);
        most.hoistOre(1);
        most.pass(1);
        Check.due("the greatest rest of all: 1 + 200 + 200", "o 1 3 400", Snapshot.trip(most));
    }

    /** A way is the difference of the depths divided by the speed, rounded up; each way by itself. */
    private static void theWayIsRoundedUp() {
        int[][] dues = {{10, 10, 1}, {11, 10, 2}, {19, 10, 2}, {20, 10, 2}, {21, 10, 3}, {10, 500, 1}, {499, 500, 1},
            {500, 500, 1}, {501, 500, 2}, {2000, 500, 4}, {2000, 499, 5}, {1999, 10, 200}, {2000, 10, 200},
            {100, 99, 2}, {100, 100, 1}, {100, 101, 1}};
        for (int[] due : dues) {
            MineHoist x = Scenes.depths(1, due[0]);
            x.setSpeed(due[1]);
            x.sendDown(1, 1);
            x.pass(1);
            Check.due("the way of " + due[0] + " with " + due[1], due[2], x.tripRest());
            MineHoist y = Scenes.depths(0, due[0]);
            y.setSpeed(due[1]);
            y.blast(1, 1);
            y.hoistOre(1);
            y.pass(1);
            Check.due("both ways of " + due[0] + " with " + due[1], 2 * due[2], y.tripRest());
        }
    }

    /** The speed is 100 at first, and is set for trips that begin from then on. */
    private static void speedForTripsThatBegin() {
        MineHoist x = Scenes.depths(2, 101);
        Check.due("setSpeed at first", 100, new MineHoist().setSpeed(10));
        x.sendDown(1, 1);
        x.setSpeed(101);
        x.pass(1);
        Check.due("the speed when the trip begins counts, not that of the request", 1, x.tripRest());
        x.setSpeed(10);
        Check.due("the rest when the speed is set in the trip", 1, x.tripRest());
        x.pass(1);
        Check.due("the trip has ended", 1, x.doneCount());
        x.callUp(1, 1);
        x.pass(1);
        Check.due("the rest of the next one: 1 + 0 + 11, less a minute", 11, x.tripRest());
    }

    /** If the hoist has no trip, it looks for one: so the next one begins in the minute after the end. */
    private static void oneTripEndsBeforeTheNextBegins() {
        MineHoist x = Scenes.depths(3, 100);
        x.sendDown(1, 1);
        x.sendDown(1, 1);
        x.pass(1);
        Check.due("the first minute", "d 1 1 1", Snapshot.trip(x));
        x.pass(1);
        Check.due("the last minute of the first trip", "-", Snapshot.trip(x));
        Check.due("the second one waits in it", "1", Snapshot.waiting(x));
        x.pass(1);
        Check.due("the first minute of the second: 1 + 1 + 1, less it", "d 1 1 2", Snapshot.trip(x));
        Check.due("none waits then", "", Snapshot.waiting(x));
        MineHoist flights = new MineHoist();
        flights.addLevel(100, 500, 1, 1);
        flights.setFan(0);
        flights.setLimit(1000);
        flights.hire(13);
        Scenes.bring(flights, 1, 13);
        flights.setLimit(1);
        flights.pass(2);
        Check.due("the last minute of a flight, one is left", "-", Snapshot.trip(flights));
        Check.due("the one who is left waits in it", 1, flights.peopleAt(1));
        flights.pass(1);
        Check.due("the first minute of the second flight", "f 1 1 2", Snapshot.trip(flights));
        MineHoist ore = Scenes.depths(0, 100);
        ore.setLimit(1000);
        ore.blast(1, 10);
        ore.hoistOre(1);
        ore.hoistOre(1);
        ore.pass(3);
        Check.due("the last minute of a trip of ore", "-", Snapshot.trip(ore));
        Check.due("the other ore waits in it", 10, ore.oreAt(1));
        ore.pass(1);
        Check.due("the first minute of the second trip of ore", "o 1 10 2", Snapshot.trip(ore));
    }

    /** A level is closed for 30 minutes after a blast, until the clock is what it was at the blast plus 30. */
    private static void closedForThirtyMinutes() {
        for (int start : new int[] {0, 1, 4969, 4970}) {
            MineHoist x = Scenes.late(start);
            x.setLimit(1000);
            x.setFan(1000);
            Check.due("blast at " + start, start + 30, x.blast(1, 1));
            Check.due("isClosed at once", true, x.isClosed(1));
            Check.due("isClosed of the other level", false, x.isClosed(2));
            x.pass(29);
            Check.due("isClosed after 29 minutes", true, x.isClosed(1));
            Check.due("a blast after 29 minutes", "IllegalStateException", Check.outcome(x, m -> m.blast(1, 1)));
            Check.due("sendDown after 29 minutes", "UnsupportedOperationException",
                    Check.outcome(x, m -> m.sendDown(1, 1)));
            x.pass(1);
            Check.due("isClosed after 30 minutes", false, x.isClosed(1));
            Check.taken("sendDown after 30 minutes", x, m -> m.sendDown(1, 1));
            Check.due("a blast after 30 minutes", start + 60, x.blast(1, 1));
            Check.due("isClosed again", true, x.isClosed(1));
        }
    }
}
