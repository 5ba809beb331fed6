/** Promises 17 to 23: people, ore and blasts. */
final class PeopleTest {
    public static void main(String[] args) {
        promise17Hire();
        promise17HireRefused();
        promises18And19People();
        promise20Endangered();
        promise21OreAt();
        promise22Blast();
        promise22BlastRefused();
        promise22BlastAndTrips();
        promise23IsClosed();
        refusedLevels();
        Check.end("PeopleTest");
    }

    private static void promise17Hire() {
        MineHoist x = new MineHoist();
        Check.due("hire(1)", 1, x.hire(1));
        Check.due("hire(99)", 100, x.hire(99));
        Check.due("hire(99) again", 199, x.hire(99));
        Check.due("hire to 200", 200, x.hire(1));
        MineHoist y = Scenes.goingDown();
        Check.due("hire with 12 in the cage", 38, y.hire(10));
        Check.due("peopleTotal with 12 in the cage", 50, y.peopleTotal());
    }

    private static void promise17HireRefused() {
        for (int count : new int[] {0, -1, 100, Integer.MIN_VALUE, Integer.MAX_VALUE}) {
            Check.refused("hire(" + count + ")", IllegalArgumentException.class, Scenes::quiet, m -> m.hire(count));
        }
        Check.refused("hire to 201 with 12 in the cage", IllegalStateException.class, () -> {
            MineHoist x = Scenes.goingDown();
            x.hire(99);
            x.hire(60);
            return x;
        }, m -> m.hire(2));
        Check.refused("hire to 201 with 10 below", IllegalStateException.class, () -> {
            MineHoist x = Scenes.peopleBelow();
            x.hire(99);
            return x;
        }, m -> m.hire(62));
        Check.refused("hire(100) at 200", IllegalArgumentException.class, Scenes::full, m -> m.hire(100));
        Check.refused("hire(1) at 200", IllegalStateException.class, Scenes::full, m -> m.hire(1));
    }

    private static void promises18And19People() {
        MineHoist x = Scenes.quiet();
        x.sendDown(2, 12);
        Check.due("peopleAt(0) before the trip", 40, x.peopleAt(0));
        x.pass(1);
        Check.due("peopleAt(0) in the trip", 28, x.peopleAt(0));
        Check.due("peopleAt(2) in the trip", 0, x.peopleAt(2));
        Check.due("peopleTotal in the trip", 40, x.peopleTotal());
        x.pass(3);
        Check.due("peopleAt(0) after the trip", 28, x.peopleAt(0));
        Check.due("peopleAt(2) after the trip", 12, x.peopleAt(2));
        Check.due("peopleTotal after the trip", 40, x.peopleTotal());
        x.callUp(2, 5);
        x.pass(1);
        Check.due("peopleAt(2) in the trip up", 7, x.peopleAt(2));
        Check.due("peopleAt(0) in the trip up", 28, x.peopleAt(0));
        Check.due("peopleTotal in the trip up", 40, x.peopleTotal());
        x.pass(3);
        Check.due("peopleAt(0) after the trip up", 33, x.peopleAt(0));
        x.sendDown(3, 6);
        x.pass(5);
        Check.due("peopleAt(3), the deepest level", 6, x.peopleAt(3));
        Check.due("peopleTotal with people on the deepest level", 40, x.peopleTotal());
        x.blast(1, 20);
        x.hoistOre(1);
        x.pass(1);
        Check.due("tripKind of ore", 'o', x.tripKind());
        Check.due("peopleTotal with ore in the cage", 40, x.peopleTotal());
    }

    private static void promise20Endangered() {
        MineHoist x = Scenes.alarmed();
        Check.due("endangered before the alarm", 0, x.endangered());
        x.setLimit(200);
        Check.due("endangered with the alarm", 12, x.endangered());
        x.pass(1);
        Check.due("endangered in the cage", 0, x.endangered());
        MineHoist y = Scenes.peopleBelow();
        y.blast(1, 5);
        Check.due("endangered with an alarm where nobody is", 0, y.endangered());
        MineHoist z = twoBelow();
        Check.due("endangered on two levels", 9, z.endangered());
        z.setLimit(30);
        Check.due("endangered on one of two levels", 5, z.endangered());
        z.setLimit(1000);
        z.callUp(1, 1);
        z.pass(3);
        z.setLimit(20);
        Check.due("cageLevel then", 0, z.cageLevel());
        Check.due("endangered with the cage on the surface", 8, z.endangered());
        MineHoist full = new MineHoist();
        full.addLevel(100, 1, 1, 50);
        full.hire(13);
        Scenes.bring(full, 1, 13);
        full.setFan(0);
        full.pass(1);
        Check.due("the share where one is left by the flight", 50000, full.gasShare(1));
        Check.due("endangered with a share of more than a thousand", 1, full.endangered());
        MineHoist deepest = Scenes.twoOnTheDeepest();
        Check.due("endangered on the deepest level", 2, deepest.endangered());
        Check.due("peopleTotal then", 3, deepest.peopleTotal());
        Check.due("isConsistent then", true, deepest.isConsistent());
        Check.due("meanShare with a limit of 1", 4.0 / 6.0, deepest.meanShare());
    }

    /** 4 people on level 1 with a share of 20 and 5 on level 2 with one of 40, when the limit is 20. */
    private static MineHoist twoBelow() {
        MineHoist x = new MineHoist();
        x.addLevel(10, 500, 1, 1);
        x.addLevel(20, 500, 1, 2);
        x.setFan(0);
        x.hire(9);
        x.sendDown(1, 4);
        x.sendDown(2, 5);
        x.setLimit(1000);
        x.pass(10);
        x.setLimit(20);
        return x;
    }

    private static void promise21OreAt() {
        MineHoist x = Scenes.blasted();
        Check.due("oreAt(1) after a blast", 30, x.oreAt(1));
        Check.due("oreAt(2) after a blast", 0, x.oreAt(2));
        x.hoistOre(1);
        x.pass(1);
        Check.due("oreAt(1) in the trip", 10, x.oreAt(1));
        Check.due("oreAt(0) in the trip", 0, x.oreAt(0));
        x.pass(2);
        Check.due("oreAt(1) after the trip", 10, x.oreAt(1));
        Check.due("oreAt(0) after the trip", 20, x.oreAt(0));
        x.hoistOre(1);
        x.pass(3);
        Check.due("oreAt(1) after the second trip", 0, x.oreAt(1));
        Check.due("oreAt(0) after the second trip", 30, x.oreAt(0));
    }

    private static void promise22Blast() {
        MineHoist x = Scenes.quiet();
        Check.due("blast(1, 1)", 30, x.blast(1, 1));
        Check.due("gasOf(1)", 5, x.gasOf(1));
        Check.due("oreAt(1)", 3, x.oreAt(1));
        Check.due("isClosed(1)", true, x.isClosed(1));
        Check.due("isClosed(2)", false, x.isClosed(2));
        x.pass(7);
        Check.due("blast(3, 20)", 37, x.blast(3, 20));
        Check.due("gasOf(3)", 100, x.gasOf(3));
        Check.due("oreAt(3)", 60, x.oreAt(3));
        Check.due("the door of a closed level", true, x.setDoor(3, true));
        x.pass(30);
        Check.due("blast(1, 2) when it is open again", 67, x.blast(1, 2));
        Check.due("oreAt(1) of both blasts", 9, x.oreAt(1));
    }

    private static void promise22BlastRefused() {
        for (int charge : new int[] {0, -1, 21, Integer.MIN_VALUE, Integer.MAX_VALUE}) {
            Check.refused("blast(2, " + charge + ")", IllegalArgumentException.class, Scenes::quiet,
                    m -> m.blast(2, charge));
            Check.refused("blast(1, " + charge + ") of a closed level", IllegalArgumentException.class,
                    Scenes::blasted, m -> m.blast(1, charge));
            Check.refused("blast(2, " + charge + ") with people there", IllegalArgumentException.class,
                    Scenes::peopleBelow, m -> m.blast(2, charge));
            Check.refused("blast(0, " + charge + ")", IndexOutOfBoundsException.class, Scenes::quiet,
                    m -> m.blast(0, charge));
        }
        Check.refused("blast(1, 1) of a closed level", IllegalStateException.class, Scenes::blasted,
                m -> m.blast(1, 1));
        Check.refused("blast(1, 1) with just one there", UnsupportedOperationException.class, () -> {
            MineHoist x = Scenes.quiet();
            x.sendDown(1, 1);
            x.pass(2);
            return x;
        }, m -> m.blast(1, 1));
        Check.refused("blast(2, 1) with people there", UnsupportedOperationException.class, Scenes::peopleBelow,
                m -> m.blast(2, 1));
        Check.refused("blast(1, 1), closed and with its ore in the cage", IllegalStateException.class, () -> {
            MineHoist x = Scenes.blasted();
            x.hoistOre(1);
            x.pass(1);
            return x;
        }, m -> m.blast(1, 1));
    }

    private static void promise22BlastAndTrips() {
        Check.refused("blast(2, 1) with a trip to it", UnsupportedOperationException.class, Scenes::goingDown,
                m -> m.blast(2, 1));
        Check.refused("blast(2, 1) with a trip from it", UnsupportedOperationException.class, () -> {
            MineHoist x = Scenes.peopleBelow();
            x.callUp(2, 12);
            x.pass(1);
            return x;
        }, m -> m.blast(2, 1));
        Check.refused("blast(1, 1) with a flight from it", UnsupportedOperationException.class, () -> {
            MineHoist x = Scenes.alarmed();
            x.pass(1);
            return x;
        }, m -> m.blast(1, 1));
        Check.refused("blast(1, 1) with its ore in the cage", UnsupportedOperationException.class, () -> {
            MineHoist x = Scenes.blasted();
            x.pass(28);
            x.hoistOre(1);
            x.pass(2);
            return x;
        }, m -> m.blast(1, 1));
        MineHoist x = Scenes.goingDown();
        Check.due("blast(1, 1) with a trip to 2", 31, x.blast(1, 1));
        MineHoist y = Scenes.quiet();
        y.sendDown(2, 1);
        Check.due("blast(2, 1) with a request to it", 30, y.blast(2, 1));
        MineHoist z = Scenes.blasted();
        z.pass(30);
        z.hoistOre(1);
        z.pass(3);
        Check.due("blast(1, 1) after the trip", 63, z.blast(1, 1));
    }

    private static void promise23IsClosed() {
        MineHoist x = Scenes.quiet();
        Check.due("isClosed without a blast", false, x.isClosed(1));
        x.pass(5);
        x.blast(1, 1);
        Check.due("isClosed at once", true, x.isClosed(1));
        x.pass(29);
        Check.due("isClosed 29 minutes later", true, x.isClosed(1));
        x.pass(1);
        Check.due("isClosed 30 minutes later", false, x.isClosed(1));
    }

    private static void refusedLevels() {
        for (int level : new int[] {-1, 4, 6, 7, Integer.MIN_VALUE, Integer.MAX_VALUE}) {
            Check.refused("peopleAt(" + level + ")", IndexOutOfBoundsException.class, Scenes::peopleBelow,
                    m -> m.peopleAt(level));
            Check.refused("oreAt(" + level + ")", IndexOutOfBoundsException.class, Scenes::blasted,
                    m -> m.oreAt(level));
        }
        for (int level : new int[] {-1, 0, 4, 6, 7, Integer.MIN_VALUE, Integer.MAX_VALUE}) {
            Check.refused("blast(" + level + ", 1)", IndexOutOfBoundsException.class, Scenes::quiet,
                    m -> m.blast(level, 1));
            Check.refused("isClosed(" + level + ")", IndexOutOfBoundsException.class, Scenes::blasted,
                    m -> m.isClosed(level));
        }
    }
}
