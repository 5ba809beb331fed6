import java.util.Map;

/** Promises 1 to 8: levels and air. */
final class LevelsTest {
    public static void main(String[] args) {
        promise1NewObject();
        promise1ObjectsAreApart();
        promise2AddLevel();
        promise2AddLevelRefused();
        promise3LevelCount();
        promise4DepthOf();
        promise5SetFan();
        promise6SetDoor();
        promise7AirOf();
        promise7DoorsAndAir();
        promise8AirByPaths();
        promises7And8Refused();
        Check.end("LevelsTest");
    }

    private static void promise1NewObject() {
        MineHoist x = new MineHoist();
        Check.due("new: levelCount", 0, x.levelCount());
        Check.due("new: depthOf(0)", 0, x.depthOf(0));
        Check.due("new: peopleAt(0)", 0, x.peopleAt(0));
        Check.due("new: peopleTotal", 0, x.peopleTotal());
        Check.due("new: oreAt(0)", 0, x.oreAt(0));
        Check.due("new: clock", 0, x.clock());
        Check.due("new: gasTotal", 0, x.gasTotal());
        Check.due("new: waitingCount", 0, x.waitingCount());
        Check.due("new: tripKind", '-', x.tripKind());
        Check.due("new: cageLevel", 0, x.cageLevel());
        Check.due("new: line", "", Snapshot.line(x));
        Check.due("new: settings", "{fan=100, limit=20, speed=100, next request=IndexOutOfBoundsException}",
                Snapshot.settings(x).toString());
        Check.due("new: pass(60) without levels", 60, x.pass(60));
        Check.due("new: gasTotal without levels", 0, x.gasTotal());
    }

    private static void promise1ObjectsAreApart() {
        MineHoist x = Scenes.quiet();
        Map<String, String> before = Snapshot.facts(x);
        MineHoist y = Scenes.blasted();
        y.hoistOre(1);
        y.pass(10);
        y.writeTrip();
        Check.same("the one mine after calls of another", before, Snapshot.facts(x));
    }

    private static void promise2AddLevel() {
        MineHoist x = new MineHoist();
        Check.due("addLevel least", 1, x.addLevel(10, 1, 1, 0));
        Check.due("its air, the door being open", 100, x.airOf(1));
        Check.due("its gas", 0, x.gasOf(1));
        Check.due("its people", 0, x.peopleAt(1));
        Check.due("its ore", 0, x.oreAt(1));
        Check.due("addLevel a metre deeper", 2, x.addLevel(11, 500, 20, 50));
        Check.due("addLevel 3", 3, x.addLevel(12, 500, 20, 50));
        Check.due("addLevel 4", 4, x.addLevel(13, 500, 20, 50));
        Check.due("addLevel 5", 5, x.addLevel(14, 500, 20, 50));
        Check.due("addLevel greatest", 6, x.addLevel(2000, 500, 20, 50));
        Check.due("the door of the last", true, x.setDoor(6, true));
        x.pass(1);
        Check.due("gas of all inflows", 250, x.gasTotal());
    }

    private static void promise2AddLevelRefused() {
        int[][] bad = {
            {9, 10, 1, 0}, {2001, 10, 1, 0}, {-1, 10, 1, 0}, {0, 10, 1, 0}, {Integer.MIN_VALUE, 10, 1, 0},
            {Integer.MAX_VALUE, 10, 1, 0}, {400, 0, 1, 0}, {400, 501, 1, 0}, {400, -5, 1, 0}, {400, 10, 0, 0},
            {400, 10, 21, 0}, {400, 10, -3, 0}, {400, 10, 1, -1}, {400, 10, 1, 51}, {310, 10, 1, 0},
            {309, 10, 1, 0}, {100, 10, 1, 0},
        };
        for (int[] b : bad) {
            Check.refused("addLevel(" + b[0] + ", " + b[1] + ", " + b[2] + ", " + b[3] + ")",
                    IllegalArgumentException.class, Scenes::quiet, x -> x.addLevel(b[0], b[1], b[2], b[3]));
        }
        Check.refused("a first level at 9", IllegalArgumentException.class, Scenes::empty,
                x -> x.addLevel(9, 1, 1, 0));
        Check.refused("a seventh level", IllegalStateException.class, Scenes::six, x -> x.addLevel(601, 1, 1, 0));
        Check.refused("a seventh level, not deeper", IllegalArgumentException.class, Scenes::six,
                x -> x.addLevel(600, 1, 1, 0));
        Check.refused("a level after a minute", IllegalStateException.class, Scenes::goingDown,
                x -> x.addLevel(400, 1, 1, 0));
        Check.refused("a level after a minute, out of range", IllegalArgumentException.class, Scenes::goingDown,
                x -> x.addLevel(400, 1, 1, 51));
        Check.refused("a first level after a minute", IllegalStateException.class, () -> {
            MineHoist x = new MineHoist();
            x.pass(1);
            return x;
        }, x -> x.addLevel(400, 1, 1, 0));
    }

    private static void promise3LevelCount() {
        MineHoist x = new MineHoist();
        for (int level = 1; level <= 6; level++) {
            x.addLevel(level * 100, 1, 1, 0);
            Check.due("levelCount", level, x.levelCount());
        }
        Check.outcome(x, m -> m.addLevel(700, 1, 1, 0));
        Check.due("levelCount after a refusal", 6, x.levelCount());
    }

    private static void promise4DepthOf() {
        MineHoist x = Scenes.quiet();
        Check.due("depthOf(0)", 0, x.depthOf(0));
        Check.due("depthOf(1)", 100, x.depthOf(1));
        Check.due("depthOf(2)", 250, x.depthOf(2));
        Check.due("depthOf(3)", 310, x.depthOf(3));
        for (int level : new int[] {-1, 4, 7, 100, Integer.MIN_VALUE, Integer.MAX_VALUE}) {
            Check.refused("depthOf(" + level + ")", IndexOutOfBoundsException.class, Scenes::quiet,
                    m -> m.depthOf(level));
        }
    }

    private static void promise5SetFan() {
        MineHoist x = Scenes.gassy();
        Check.due("setFan, first", 100, x.setFan(0));
        Check.due("airOf without a fan", 0, x.airOf(2));
        Check.due("setFan, second", 0, x.setFan(1000));
        Check.due("airOf with a great fan", 750, x.airOf(1));
        Check.due("setFan, third", 1000, x.setFan(1));
        for (int volume : new int[] {-1, 1001, Integer.MIN_VALUE, Integer.MAX_VALUE}) {
            Check.refused("setFan(" + volume + ")", IllegalArgumentException.class, Scenes::gassy,
                    m -> m.setFan(volume));
        }
    }

    private static void promise6SetDoor() {
        MineHoist x = Scenes.gassy();
        Check.due("setDoor(1, true) of an open one", true, x.setDoor(1, true));
        Check.due("setDoor(1, false) of an open one", true, x.setDoor(1, false));
        Check.due("setDoor(1, false) of a closed one", false, x.setDoor(1, false));
        Check.due("setDoor(1, true) of a closed one", false, x.setDoor(1, true));
        Check.due("setDoor(2, false), the other one", true, x.setDoor(2, false));
        Check.due("a door has nothing to do with a blast", false, x.isClosed(2));
        for (int level : new int[] {-1, 0, 3, 6, 7, Integer.MIN_VALUE, Integer.MAX_VALUE}) {
            Check.refused("setDoor(" + level + ", false)", IndexOutOfBoundsException.class, Scenes::gassy,
                    m -> m.setDoor(level, false));
        }
    }

    /** widths 3, 2, 1: of 100 units 50, of the 50 others 33, then 17. */
    private static void promise7AirOf() {
        MineHoist x = Scenes.quiet();
        Check.due("air of 3, 2, 1", "50 33 17", airs(x));
        x.setFan(10);
        Check.due("air of 3, 2, 1 of 10", "5 3 2", airs(x));
        x.setFan(7);
        Check.due("air of 3, 2, 1 of 7", "3 2 2", airs(x));
        x.setFan(1);
        Check.due("air of 3, 2, 1 of 1", "0 0 1", airs(x));
        x.setFan(0);
        Check.due("air of 3, 2, 1 of 0", "0 0 0", airs(x));
        Check.due("air of six", "4 9 14 19 24 30", airs(Scenes.six()));
        MineHoist y = Scenes.blasted();
        Check.due("air after a blast", "50 33 17", airs(y));
    }

    private static void promise7DoorsAndAir() {
        MineHoist x = Scenes.quiet();
        x.setDoor(2, false);
        Check.due("air with the middle one closed", "75 0 25", airs(x));
        x.setDoor(3, false);
        Check.due("air with the highest one open", "100 0 0", airs(x));
        x.setDoor(1, false);
        Check.due("air with all closed", "0 0 0", airs(x));
        x.setDoor(2, true);
        Check.due("air with the middle one open", "0 100 0", airs(x));
        x.setDoor(3, true);
        Check.due("air with the highest one closed", "0 66 34", airs(x));
    }

    private static void promise8AirByPaths() {
        for (int doors = 0; doors < 64; doors++) {
            MineHoist x = Scenes.six();
            for (int level = 1; level <= 6; level++) {
                x.setDoor(level, (doors >> (level - 1)) % 2 == 1);
            }
            for (int fan : new int[] {0, 1, 2, 10, 99, 1000}) {
                x.setFan(fan);
                Check.due("airByPaths, doors " + doors + ", fan " + fan, airs(x), airsByPaths(x));
            }
        }
        MineHoist y = Scenes.quiet();
        Check.due("airByPaths of 3, 2, 1", "50 33 17", airsByPaths(y));
        y.setFan(7);
        Check.due("airByPaths of 3, 2, 1 of 7", "3 2 2", airsByPaths(y));
        y.setDoor(3, false);
        Check.due("airByPaths of 3, 2 of 7", "4 3 0", airsByPaths(y));
    }

    private static void promises7And8Refused() {
        for (int level : new int[] {-1, 0, 4, 6, 7, Integer.MIN_VALUE, Integer.MAX_VALUE}) {
            Check.refused("airOf(" + level + ")", IndexOutOfBoundsException.class, Scenes::quiet,
                    m -> m.airOf(level));
            Check.refused("airByPaths(" + level + ")", IndexOutOfBoundsException.class, Scenes::quiet,
                    m -> m.airByPaths(level));
        }
    }

    private static String airs(MineHoist x) {
        StringBuilder text = new StringBuilder();
        for (int level = 1; level <= x.levelCount(); level++) {
            text.append(level > 1 ? " " : "").append(x.airOf(level));
        }
        return text.toString();
    }

    private static String airsByPaths(MineHoist x) {
        StringBuilder text = new StringBuilder();
        for (int level = 1; level <= x.levelCount(); level++) {
            text.append(level > 1 ? " " : "").append(x.airByPaths(level));
        }
        return text.toString();
    }
}
