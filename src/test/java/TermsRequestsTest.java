/** The sentences of "Terms" on requests that name an edge, each with a test of its own. */
final class TermsRequestsTest {
    public static void main(String[] args) {
        requestsAreNumberedFromZero();
        atMostEightAreWaiting();
        aPlaceIsFreeWhenOneIsTakenDroppedOrCanceled();
        downDroppedIfAlarm();
        downDroppedIfClosed();
        downDroppedIfNobodyIsOnTheSurface();
        upDroppedIfNobodyIsThere();
        asManyAsRequestedAndThere();
        oreDroppedIfNoneIsThere();
        oreAtMostTwenty();
        peopleBeforeOreAtTheSameMinute();
        droppedOnesAndTheNextInOneMinute();
        Check.end("TermsRequestsTest");
    }

    /** Requests for people and for ore are numbered from 0 in the order in which they are made. */
    private static void requestsAreNumberedFromZero() {
        MineHoist ore = Scenes.depths(5, 100);
        Check.due("the first request, of ore", 0, ore.hoistOre(1));
        Check.due("the second request, up", 1, ore.callUp(1, 1));
        Check.due("the third request, down", 2, ore.sendDown(1, 1));
        Check.outcome(ore, m -> m.sendDown(1, 13));
        Check.outcome(ore, m -> m.callUp(2, 1));
        Check.outcome(ore, m -> m.hoistOre(0));
        Check.due("the next one after three refusals", 3, ore.hoistOre(1));
        ore.cancel(3);
        Check.due("the next one after a cancel", 4, ore.callUp(1, 1));
        ore.pass(1);
        Check.due("those that wait when one is dropped and one taken", "0 4", Snapshot.waiting(ore));
        Check.due("the next one after that", 5, ore.sendDown(1, 1));
        ore.pass(60);
        Check.due("those that wait in the end", "", Snapshot.waiting(ore));
        Check.due("the next one with none that waits", 6, ore.callUp(1, 1));
        Check.due("the first request, up", 0, Scenes.depths(5, 100).callUp(1, 1));
        Check.due("the first request, down", 0, Scenes.depths(5, 100).sendDown(1, 1));
    }

    /** At most 8 requests are waiting. */
    private static void atMostEightAreWaiting() {
        for (int kind = 0; kind < 3; kind++) {
            MineHoist x = Scenes.depths(5, 100);
            for (int number = 0; number < 8; number++) {
                Check.due("request " + number, number, request(x, (number + kind) % 3));
                Check.due("waitingCount with it", number + 1, x.waitingCount());
            }
            int ninth = kind;
            Check.due("the ninth one", "IllegalStateException", Check.outcome(x, m -> request(m, ninth)));
            Check.due("waitingCount after it", 8, x.waitingCount());
        }
    }

    private static int request(MineHoist x, int kind) {
        if (kind == 0) {
            return x.sendDown(1, 1);
        }
        return kind == 1 ? x.callUp(1, 1) : x.hoistOre(1);
    }

    /** They wait until the hoist takes them, drops them, or they are canceled. */
    private static void aPlaceIsFreeWhenOneIsTakenDroppedOrCanceled() {
        MineHoist taken = Scenes.crowded();
        taken.pass(1);
        Check.due("those that wait when one is taken", "1 2 3 4 5 6 7", Snapshot.waiting(taken));
        Check.due("the one in its place", 8, taken.hoistOre(1));
        Check.due("one more", "IllegalStateException", Check.outcome(taken, m -> m.hoistOre(1)));
        MineHoist canceled = Scenes.crowded();
        canceled.cancel(0);
        Check.due("the one in place of a canceled one", 8, canceled.callUp(1, 1));
        Check.due("one more then", "IllegalStateException", Check.outcome(canceled, m -> m.callUp(1, 1)));
        Check.due("those that wait then", "1 2 3 4 5 6 7 8", Snapshot.waiting(canceled));
        MineHoist dropped = Scenes.depths(5, 100);
        for (int number = 0; number < 8; number++) {
            request(dropped, number == 0 ? 1 : 0);
        }
        dropped.pass(1);
        Check.due("those that wait when one is dropped and one taken", "2 3 4 5 6 7", Snapshot.waiting(dropped));
        dropped.sendDown(1, 1);
        Check.due("the second one in their places", 9, dropped.sendDown(1, 1));
        Check.due("a third one", "IllegalStateException", Check.outcome(dropped, m -> m.sendDown(1, 1)));
    }

    /** A request down is dropped if there is an alarm on its level. */
    private static void downDroppedIfAlarm() {
        MineHoist x = requestToShareOfHundred();
        x.setLimit(100);
        x.pass(1);
        Check.due("dropped at a share of 100, limit 100", 1, x.droppedCount());
        Check.due("no trip then", "-", Snapshot.trip(x));
        MineHoist y = requestToShareOfHundred();
        y.setLimit(101);
        y.pass(1);
        Check.due("dropped at a share of 100, limit 101", 0, y.droppedCount());
        Check.due("the trip then", "d 1 5 1", Snapshot.trip(y));
        MineHoist z = Scenes.depths(5, 100);
        z.sendDown(1, 5);
        z.setLimit(1000);
        z.blast(1, 1);
        z.setLimit(5);
        z.callUp(1, 1);
        z.hoistOre(1);
        z.pass(1);
        Check.due("the request down and the one up dropped", 2, z.droppedCount());
        Check.due("an alarm on its level does not keep the ore there", "o 1 3 2", Snapshot.trip(z));
        MineHoist up = Scenes.shareOfHundred();
        up.setLimit(100);
        up.callUp(1, 5);
        up.pass(1);
        Check.due("a flight comes before the request up", "f 1 5 1", Snapshot.trip(up));
        up.pass(2);
        Check.due("then nobody is there for the request up", 1, up.droppedCount());
    }

    /** A request down to level 1, whose share is 100 in the minute that follows if the fan does not run. */
    private static MineHoist requestToShareOfHundred() {
        MineHoist x = new MineHoist();
        x.addLevel(100, 10, 1, 1);
        x.setFan(0);
        x.hire(5);
        x.sendDown(1, 5);
        return x;
    }

    /**
     * If its level is closed: two requests down, the first of 30 or 29 minutes to the deeper level, then a blast on
     * the other one. The clock is 30 more than at the blast when the hoist looks at the second one, or 29 more.
     */
    private static void downDroppedIfClosed() {
        for (int depth : new int[] {290, 280}) {
            MineHoist x = Scenes.depths(2, 100, depth);
            x.setSpeed(10);
            x.setLimit(1000);
            x.pass(7);
            x.sendDown(2, 1);
            x.sendDown(1, 1);
            x.blast(1, 1);
            x.pass(depth / 10 + 1);
            Check.due("the first trip of " + depth + " has ended", 1, x.doneCount());
            Check.due("isClosed then", depth == 280, x.isClosed(1));
            x.pass(1);
            Check.due("dropped after the trip of " + depth, depth == 280 ? 1 : 0, x.droppedCount());
            Check.due("the kind after the trip of " + depth, depth == 280 ? '-' : 'd', x.tripKind());
        }
        MineHoist y = Scenes.depths(5, 100);
        y.setLimit(1000);
        y.blast(1, 1);
        y.hoistOre(1);
        y.pass(1);
        Check.due("a closed level does not keep its ore", "o 1 3 2", Snapshot.trip(y));
    }

    /** Or if nobody is on the surface. */
    private static void downDroppedIfNobodyIsOnTheSurface() {
        MineHoist x = Scenes.depths(5, 100, 200);
        x.sendDown(1, 5);
        x.sendDown(2, 1);
        x.pass(3);
        Check.due("dropped when all 5 are down", 1, x.droppedCount());
        Check.due("no trip then", "-", Snapshot.trip(x));
        MineHoist y = Scenes.depths(6, 100, 200);
        y.sendDown(1, 5);
        y.sendDown(2, 2);
        y.pass(3);
        Check.due("dropped when one of 6 is left", 0, y.droppedCount());
        Check.due("the trip then: 1 + 1 + 2, less a minute", "d 2 1 3", Snapshot.trip(y));
        MineHoist z = Scenes.depths(5, 100, 200);
        z.sendDown(1, 5);
        z.sendDown(2, 1);
        z.pass(2);
        z.hire(1);
        z.pass(1);
        Check.due("the trip of one who was hired in time", "d 2 1 3", Snapshot.trip(z));
    }

    /** A request up is dropped if nobody is on its level. */
    private static void upDroppedIfNobodyIsThere() {
        MineHoist x = Scenes.depths(6, 100, 200);
        Scenes.bring(x, 1, 6);
        x.callUp(2, 1);
        x.pass(1);
        Check.due("dropped with nobody there, but on another level", 1, x.droppedCount());
        x.callUp(1, 5);
        x.callUp(1, 1);
        x.callUp(1, 1);
        x.pass(2);
        x.pass(3);
        Check.due("done when all 6 are up", 3, x.doneCount());
        Check.due("people on the surface", 6, x.peopleAt(0));
        x.pass(1);
        Check.due("dropped when nobody is there any more", 2, x.droppedCount());
    }

    /** Otherwise the hoist takes it, with as many people as were requested and are there. */
    private static void asManyAsRequestedAndThere() {
        int[][] dues = {{1, 1, 1}, {1, 12, 1}, {11, 12, 11}, {12, 12, 12}, {13, 12, 12}, {12, 11, 11}, {12, 1, 1}};
        for (int[] due : dues) {
            MineHoist x = Scenes.depths(due[0], 100);
            x.sendDown(1, due[1]);
            x.pass(1);
            Check.due("down, " + due[1] + " of " + due[0], "d 1 " + due[2] + " 1", Snapshot.trip(x));
            Check.due("left on the surface", due[0] - due[2], x.peopleAt(0));
            MineHoist y = Scenes.depths(due[0], 100);
            Scenes.bring(y, 1, due[0]);
            y.callUp(1, due[1]);
            y.pass(1);
            Check.due("up, " + due[1] + " of " + due[0], "u 1 " + due[2] + " 1", Snapshot.trip(y));
            Check.due("left on the level", due[0] - due[2], y.peopleAt(1));
        }
    }

    /** A request for ore is dropped if there is no ore on its level. */
    private static void oreDroppedIfNoneIsThere() {
        MineHoist x = Scenes.depths(0, 100, 200);
        x.blast(2, 1);
        x.hoistOre(1);
        x.pass(1);
        Check.due("dropped without ore, but on another level", 1, x.droppedCount());
        x.hoistOre(2);
        x.hoistOre(2);
        x.pass(5);
        Check.due("oreAt(0) after the trip: 1 + 2 + 2", 3, x.oreAt(0));
        x.pass(1);
        Check.due("dropped when the ore is hoisted", 2, x.droppedCount());
    }

    /** Otherwise the hoist takes it, with all the ore, but at most 20. */
    private static void oreAtMostTwenty() {
        int[][] dues = {{1, 3, 0}, {6, 18, 0}, {7, 20, 1}, {20, 20, 40}};
        for (int[] due : dues) {
            MineHoist x = Scenes.depths(0, 100);
            x.blast(1, due[0]);
            x.hoistOre(1);
            x.pass(1);
            Check.due("ore of a charge of " + due[0], "o 1 " + due[1] + " 2", Snapshot.trip(x));
            Check.due("ore left of it", due[2], x.oreAt(1));
            x.pass(2);
            Check.due("ore on the surface of it", due[1], x.oreAt(0));
        }
        MineHoist most = Scenes.depths(0, 100);
        most.blast(1, 20);
        for (int i = 0; i < 4; i++) {
            most.hoistOre(1);
        }
        most.pass(7);
        Check.due("the third trip has just 20", "o 1 20 2", Snapshot.trip(most));
        Check.due("nothing is left of it", 0, most.oreAt(1));
        most.pass(3);
        Check.due("the fourth is dropped", 1, most.droppedCount());
        Check.due("all 60 are up", 60, most.oreAt(0));
    }

    /** Secondly, the requests for people; thirdly, those for ore: also those that were made before. */
    private static void peopleBeforeOreAtTheSameMinute() {
        MineHoist x = Scenes.depths(5, 100);
        x.setLimit(1000);
        x.blast(1, 1);
        x.hoistOre(1);
        x.callUp(1, 1);
        x.pass(1);
        Check.due("the request for people is dropped, and that for ore taken", "o 1 3 2", Snapshot.trip(x));
        Check.due("dropped then", 1, x.droppedCount());
        Check.due("those that wait then", "", Snapshot.waiting(x));
        MineHoist y = Scenes.depths(5, 100, 200);
        y.hoistOre(1);
        y.sendDown(2, 1);
        y.pass(1);
        Check.due("no request for ore is looked at when one for people is taken", 0, y.droppedCount());
        Check.due("it waits then", "0", Snapshot.waiting(y));
        y.pass(2);
        Check.due("nor in the trip", 0, y.droppedCount());
        y.pass(1);
        Check.due("but after it", 1, y.droppedCount());
    }

    /** A request that is looked at is dropped or taken, and if it is dropped, the hoist looks at the next one. */
    private static void droppedOnesAndTheNextInOneMinute() {
        MineHoist x = Scenes.depths(5, 100);
        for (int i = 0; i < 7; i++) {
            x.callUp(1, 1);
        }
        x.sendDown(1, 2);
        x.pass(1);
        Check.due("7 are dropped", 7, x.droppedCount());
        Check.due("and the eighth is taken", "d 1 2 1", Snapshot.trip(x));
        MineHoist y = Scenes.depths(5, 100);
        y.sendDown(1, 2);
        for (int i = 0; i < 7; i++) {
            y.callUp(1, 1);
        }
        y.pass(1);
        Check.due("none behind the one that is taken is looked at", 0, y.droppedCount());
        Check.due("they wait", "1 2 3 4 5 6 7", Snapshot.waiting(y));
        MineHoist z = Scenes.depths(0, 100);
        for (int i = 0; i < 8; i++) {
            request(z, i % 3);
        }
        z.pass(1);
        Check.due("all 8 are dropped", 8, z.droppedCount());
        Check.due("none waits", "", Snapshot.waiting(z));
        Check.due("doneCount of dropped ones", 0, z.doneCount());
    }
}
