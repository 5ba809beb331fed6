/**
 * Mines that several tests begin with. All but the empty one have "none" in their line, written before anything else
 * happens, so that a call that should leave the line alone is found out.
 */
final class Scenes {
    private Scenes() {
    }

    static MineHoist empty() {
        return new MineHoist();
    }

    private static MineHoist withLine() {
        MineHoist x = new MineHoist();
        x.writeTrip();
        return x;
    }

    /** Two levels with gas. */
    static MineHoist gassy() {
        MineHoist x = withLine();
        x.addLevel(100, 100, 3, 2);
        x.addLevel(250, 50, 1, 5);
        return x;
    }

    /** Three levels without gas, and 40 people on the surface. */
    static MineHoist quiet() {
        MineHoist x = withLine();
        x.addLevel(100, 100, 3, 0);
        x.addLevel(250, 100, 2, 0);
        x.addLevel(310, 100, 1, 0);
        x.hire(40);
        return x;
    }

    static MineHoist six() {
        MineHoist x = withLine();
        for (int level = 1; level <= 6; level++) {
            x.addLevel(level * 100, 100, level, level);
        }
        return x;
    }

    /** The quiet mine, with 12 people in the cage on the way to level 2, after a minute. */
    static MineHoist goingDown() {
        MineHoist x = quiet();
        x.sendDown(2, 12);
        x.pass(1);
        return x;
    }

    /** The quiet mine with 10 people on level 2, the cage there too, after 4 minutes. */
    static MineHoist peopleBelow() {
        MineHoist x = quiet();
        x.sendDown(2, 10);
        x.pass(4);
        return x;
    }

    /** The quiet mine with a blast of 10 on level 1, and the alarm limit above its gas. */
    static MineHoist blasted() {
        MineHoist x = quiet();
        x.setLimit(1000);
        x.blast(1, 10);
        return x;
    }

    /** The quiet mine with as many people as there may be. */
    static MineHoist full() {
        MineHoist x = quiet();
        x.hire(99);
        x.hire(61);
        return x;
    }

    /** The quiet mine with 8 requests that wait, all of them down to level 1. */
    static MineHoist crowded() {
        MineHoist x = quiet();
        for (int i = 0; i < 8; i++) {
            x.sendDown(1, 1);
        }
        return x;
    }

    /** A gassy mine at a certain clock. */
    static MineHoist late(int clock) {
        MineHoist x = gassy();
        while (x.clock() < clock) {
            x.pass(Math.min(60, clock - x.clock()));
        }
        return x;
    }

    /** 12 people and the cage on a level of 50 metres that has an alarm from the third minute on, after two. */
    static MineHoist alarmed() {
        MineHoist x = withLine();
        x.addLevel(50, 10, 1, 1);
        x.hire(30);
        x.setLimit(300);
        x.setFan(0);
        x.sendDown(1, 12);
        x.sendDown(1, 12);
        x.pass(2);
        return x;
    }

    /** Levels of size 500 with these depths, without gas or fan; the people are on the surface. */
    static MineHoist depths(int people, int... depths) {
        MineHoist x = withLine();
        for (int depth : depths) {
            x.addLevel(depth, 500, 1, 0);
        }
        x.setFan(0);
        if (people > 0) {
            x.hire(people);
        }
        return x;
    }

    /** Sends people down to a level of at most 900 metres, 12 at a time. */
    static void bring(MineHoist x, int level, int count) {
        int before = x.peopleAt(level);
        for (int rest = count; rest > 0; rest -= 12) {
            x.sendDown(level, Math.min(rest, 12));
            x.pass(20);
        }
        Check.due("people brought to level " + level, before + count, x.peopleAt(level));
    }

    /** 2 people and the cage on the deepest of six levels, the one with gas, at the clock 2; a request to level 1. */
    static MineHoist twoOnTheDeepest() {
        MineHoist x = withLine();
        for (int level = 1; level <= 6; level++) {
            x.addLevel(9 + level, 500, 1, level == 6 ? 1 : 0);
        }
        x.setFan(0);
        x.setLimit(1000);
        x.hire(3);
        x.sendDown(6, 2);
        x.sendDown(1, 1);
        x.pass(2);
        x.setLimit(1);
        return x;
    }

    /** 5 people on level 1, whose share is 100 in the minute that follows if the fan does not run. */
    static MineHoist shareOfHundred() {
        MineHoist x = withLine();
        x.addLevel(100, 10, 1, 1);
        x.setLimit(1000);
        x.hire(5);
        x.sendDown(1, 5);
        x.pass(2);
        x.setFan(0);
        return x;
    }
}
