/** The sentences of "Terms" on levels, air and gas that name an edge, each with a test of its own. */
final class TermsAirTest {
    public static void main(String[] args) {
        atMostSixLevels();
        levelsAreAddedBeforeTheFirstMinute();
        theFanBrings100AtFirst();
        airRoundedDown();
        airAtAClosedDoor();
        airWithoutDeeperOpenDoors();
        airWithAllDoorsClosed();
        airOfAnUneasyMine();
        airOfLevelsAddedOneByOne();
        gasShareRoundedDown();
        alarmAtTheLimit();
        inflowBeforeAir();
        gasTakenRoundedDown();
        airCountedAsTheSize();
        Check.end("TermsAirTest");
    }

    private static MineHoist widths(int... widths) {
        MineHoist x = new MineHoist();
        for (int i = 0; i < widths.length; i++) {
            x.addLevel(100 + i, 100, widths[i], 0);
        }
        return x;
    }

    /** Both ways to find the air: from branch to branch, and by following each unit. */
    private static void air(String what, MineHoist x, int fan, int... due) {
        x.setFan(fan);
        for (int level = 1; level <= due.length; level++) {
            String which = what + ", fan " + fan + ", level " + level;
            Check.due("airOf, " + which, due[level - 1], x.airOf(level));
            Check.due("airByPaths, " + which, due[level - 1], x.airByPaths(level));
        }
        Check.due("isConsistent, " + what, true, x.isConsistent());
    }

    private static MineHoist one(int size, int inflow, int fan) {
        MineHoist x = new MineHoist();
        x.addLevel(100, size, 1, inflow);
        x.setFan(fan);
        return x;
    }

    /** At most 6 levels are numbered from 1, from the highest to the deepest one; 0 stands for the surface. */
    private static void atMostSixLevels() {
        MineHoist x = new MineHoist();
        for (int level = 1; level <= 6; level++) {
            Check.due("the number of level " + level, level, x.addLevel(10 * level, 100, 1, 0));
            Check.due("levelCount with it", level, x.levelCount());
        }
        for (int level = 0; level <= 6; level++) {
            Check.due("depthOf(" + level + ")", 10 * level, x.depthOf(level));
        }
        Check.refused("a seventh level", IllegalStateException.class, Scenes::six, m -> m.addLevel(2000, 1, 1, 0));
    }

    /** Levels are added before the first minute: all but pass may have been called, also what looks ahead. */
    private static void levelsAreAddedBeforeTheFirstMinute() {
        MineHoist x = Scenes.quiet();
        x.setLimit(1000);
        x.sendDown(2, 1);
        x.waitFor(0);
        x.blast(1, 1);
        Check.outcome(x, m -> m.minutesToAlarm(1));
        Check.outcome(x, m -> m.pass(0));
        x.setDoor(1, false);
        x.setFan(7);
        x.setSpeed(10);
        x.writeTrip();
        Check.due("a level at the clock 0", 4, x.addLevel(311, 1, 1, 0));
        Check.refused("a level at the clock 1", IllegalStateException.class, Scenes::goingDown,
                m -> m.addLevel(311, 1, 1, 0));
        Check.refused("a level at the clock 5000", IllegalStateException.class, () -> Scenes.late(5000),
                m -> m.addLevel(311, 1, 1, 0));
    }

    /** The fan brings a volume of air in each minute, 100 at first. */
    private static void theFanBrings100AtFirst() {
        MineHoist x = widths(1);
        Check.due("airOf(1) at first", 100, x.airOf(1));
        Check.due("airByPaths(1) at first", 100, x.airByPaths(1));
        x.pass(1);
        Check.due("airOf(1) after a minute", 100, x.airOf(1));
        Check.due("setFan at first", 100, new MineHoist().setFan(0));
    }

    /** Of the a units that arrive, a * w / (w + v) go into its gallery, rounded down; the others go on. */
    private static void airRoundedDown() {
        air("widths 20 and 1", widths(20, 1), 1, 0, 1);
        air("widths 20 and 1", widths(20, 1), 20, 19, 1);
        air("widths 20 and 1", widths(20, 1), 21, 20, 1);
        air("widths 20 and 1", widths(20, 1), 22, 20, 2);
        air("widths 20 and 1", widths(20, 1), 1000, 952, 48);
        air("widths 1 and 20", widths(1, 20), 20, 0, 20);
        air("widths 1 and 20", widths(1, 20), 21, 1, 20);
        air("widths 1 and 20", widths(1, 20), 41, 1, 40);
        air("widths 1 and 20", widths(1, 20), 42, 2, 40);
        air("widths 5 and 5", widths(5, 5), 1, 0, 1);
        air("widths 5 and 5", widths(5, 5), 2, 1, 1);
        air("widths 5 and 5", widths(5, 5), 3, 1, 2);
        air("six widths of 1", widths(1, 1, 1, 1, 1, 1), 1, 0, 0, 0, 0, 0, 1);
        air("six widths of 1", widths(1, 1, 1, 1, 1, 1), 5, 0, 1, 1, 1, 1, 1);
        air("six widths of 1", widths(1, 1, 1, 1, 1, 1), 6, 1, 1, 1, 1, 1, 1);
        air("six widths of 1", widths(1, 1, 1, 1, 1, 1), 7, 1, 1, 1, 1, 1, 2);
        air("six widths of 20", widths(20, 20, 20, 20, 20, 20), 1000, 166, 166, 167, 167, 167, 167);
        air("two of three", widths(3, 2, 1), 0, 0, 0, 0);
        air("one level", widths(20), 1, 1);
        air("one level", widths(1), 1000, 1000);
    }

    /** At a level with a closed door, all of it goes on; and its width counts for none of the levels above. */
    private static void airAtAClosedDoor() {
        MineHoist first = widths(3, 2, 1);
        first.setDoor(1, false);
        air("the first door closed", first, 100, 0, 66, 34);
        MineHoist middle = widths(3, 2, 1);
        middle.setDoor(2, false);
        air("the middle door closed", middle, 100, 75, 0, 25);
        air("the middle door closed", middle, 1, 0, 0, 1);
        MineHoist last = widths(3, 2, 1);
        last.setDoor(3, false);
        air("the last door closed", last, 100, 60, 40, 0);
        last.setDoor(3, true);
        air("the last door open again", last, 100, 50, 33, 17);
    }

    /** If all deeper levels have closed doors or there are none, all the air that arrives goes into its gallery. */
    private static void airWithoutDeeperOpenDoors() {
        MineHoist x = widths(3, 2, 1);
        x.setDoor(2, false);
        x.setDoor(3, false);
        air("the first door alone open", x, 1, 1, 0, 0);
        air("the first door alone open", x, 1000, 1000, 0, 0);
        x.setDoor(1, false);
        x.setDoor(2, true);
        air("the middle door alone open", x, 1000, 0, 1000, 0);
        x.setDoor(2, false);
        x.setDoor(3, true);
        air("the last door alone open", x, 1000, 0, 0, 1000);
    }

    /** If all doors are closed, no level has air. */
    private static void airWithAllDoorsClosed() {
        MineHoist x = widths(3, 2, 1);
        for (int level = 1; level <= 3; level++) {
            x.setDoor(level, false);
        }
        air("all doors closed", x, 1000, 0, 0, 0);
        MineHoist gassy = one(10, 3, 1000);
        gassy.setDoor(1, false);
        gassy.pass(2);
        Check.due("gas behind a closed door", 6, gassy.gasOf(1));
        Check.due("ventedTotal behind a closed door", 0, gassy.ventedTotal());
    }

    /** Neither the limit nor anything else but the fan, the widths and the doors has a say in the air. */
    private static void airOfAnUneasyMine() {
        MineHoist x = Scenes.twoOnTheDeepest();
        air("with the least limit and people on the deepest level", x, 100, 16, 16, 17, 17, 17, 17);
        x.setDoor(6, false);
        air("with the deepest door closed then", x, 100, 20, 20, 20, 20, 20, 0);
        x.blast(5, 20);
        air("after a blast then", x, 9, 1, 2, 2, 2, 2, 0);
    }

    /** The door of a new level is open: it has air at once, and the levels above have less. */
    private static void airOfLevelsAddedOneByOne() {
        MineHoist x = widths(1);
        air("of one level", x, 90, 90);
        x.addLevel(200, 1, 2, 0);
        air("of two levels", x, 90, 30, 60);
        x.addLevel(300, 1, 3, 0);
        air("of three levels", x, 90, 15, 30, 45);
    }

    /** The gas share of a level is 1000 times its gas divided by its size, rounded down. */
    private static void gasShareRoundedDown() {
        int[][] dues = {{1, 1000}, {3, 333}, {7, 142}, {51, 19}, {400, 2}, {499, 2}, {500, 2}};
        for (int[] due : dues) {
            MineHoist x = one(due[0], 1, 0);
            Check.due("share without gas, size " + due[0], 0, x.gasShare(1));
            x.pass(1);
            Check.due("share of 1, size " + due[0], due[1], x.gasShare(1));
        }
        MineHoist full = one(499, 50, 0);
        full.pass(10);
        Check.due("share of 500, size 499", 1002, full.gasShare(1));
        MineHoist less = one(500, 1, 0);
        for (int i = 0; i < 8; i++) {
            less.pass(60);
        }
        less.pass(19);
        Check.due("share of 499, size 500", 998, less.gasShare(1));
    }

    /** There is an alarm on a level if its gas share is at least the limit, which is 20 at first. */
    private static void alarmAtTheLimit() {
        int[][] dues = {{51, 19, 0}, {50, 20, 1}, {47, 21, 1}};
        for (int[] due : dues) {
            MineHoist x = one(due[0], 1, 0);
            x.pass(1);
            Check.due("share of 1, size " + due[0], due[1], x.gasShare(1));
            Check.due("isAlarm with a share of " + due[1] + " at first", due[2] == 1, x.isAlarm(1));
            Check.due("minutesToAlarm with a share of " + due[1], 1 - due[2], x.minutesToAlarm(1));
            x.setLimit(due[1]);
            Check.due("isAlarm at the limit of " + due[1], true, x.isAlarm(1));
            Check.due("sendDown at the limit", "UnsupportedOperationException",
                    Check.outcome(x, m -> m.sendDown(1, 1)));
            x.setLimit(due[1] + 1);
            Check.due("isAlarm below the limit", false, x.isAlarm(1));
            Check.due("sendDown below the limit", 0, x.sendDown(1, 1));
            x.setLimit(due[1] - 1);
            Check.due("isAlarm above the limit", true, x.isAlarm(1));
        }
        Check.due("setLimit at first", 20, new MineHoist().setLimit(1));
    }

    /** First, the inflow of each level is added to its gas. Then the air of each level takes gas away. */
    private static void inflowBeforeAir() {
        MineHoist x = one(1, 50, 1);
        x.pass(1);
        Check.due("gas that came in and went in the same minute", 0, x.gasOf(1));
        Check.due("gasTotal of it", 50, x.gasTotal());
        Check.due("ventedTotal of it", 50, x.ventedTotal());
        MineHoist none = one(100, 0, 1000);
        none.pass(60);
        Check.due("gas of the least inflow", 0, none.gasOf(1));
        Check.due("gasTotal of it", 0, none.gasTotal());
        Check.due("ventedTotal of it", 0, none.ventedTotal());
        MineHoist blast = one(100, 0, 100);
        blast.blast(1, 20);
        Check.due("gas of a blast before the minute", 100, blast.gasOf(1));
        blast.pass(1);
        Check.due("gas of a blast after the minute", 0, blast.gasOf(1));
    }

    /** The gas multiplied by the air and divided by the size, rounded down: 1 * 1 / 3, 2 * 1 / 3, 3 * 1 / 3. */
    private static void gasTakenRoundedDown() {
        MineHoist x = one(3, 1, 1);
        int[] gas = {1, 2, 2, 2};
        int[] vented = {0, 0, 1, 2};
        for (int i = 0; i < gas.length; i++) {
            x.pass(1);
            Check.due("gas of size 3 after " + x.clock(), gas[i], x.gasOf(1));
            Check.due("vented of size 3 after " + x.clock(), vented[i], x.ventedTotal());
        }
        MineHoist most = one(500, 1, 499);
        most.pass(1);
        Check.due("1 * 499 / 500", 0, most.ventedTotal());
        most.pass(1);
        Check.due("2 * 499 / 500", 1, most.ventedTotal());
    }

    /** The air is counted as the size if it is greater: a unit less, as much, a unit more, the most. */
    private static void airCountedAsTheSize() {
        int[][] gasOfFan = {{99, 1}, {100, 0}, {101, 0}, {1000, 0}};
        for (int[] due : gasOfFan) {
            MineHoist x = one(100, 50, due[0]);
            x.pass(1);
            Check.due("gas of size 100 with air " + due[0], due[1], x.gasOf(1));
            Check.due("vented of size 100 with air " + due[0], 50 - due[1], x.ventedTotal());
            Check.due("isConsistent with air " + due[0], true, x.isConsistent());
        }
    }
}
