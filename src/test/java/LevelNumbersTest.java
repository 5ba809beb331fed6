import java.util.LinkedHashMap;
import java.util.Map;
import java.util.function.Supplier;

/** The edges of each "level" that a call takes, in mines with no, one, some and all levels. */
final class LevelNumbersTest {
    private interface Call {
        void ask(MineHoist mine, int level);
    }

    /** "the level, 0 for the surface": refused "if there is neither such a level, nor is it 0". */
    private static final Map<String, Call> FROM_SURFACE = new LinkedHashMap<>();
    /** "the level, from 1": refused "if there is no such level". */
    private static final Map<String, Call> FROM_ONE = new LinkedHashMap<>();

    static {
        FROM_SURFACE.put("4 depthOf", MineHoist::depthOf);
        FROM_SURFACE.put("18 peopleAt", MineHoist::peopleAt);
        FROM_SURFACE.put("21 oreAt", MineHoist::oreAt);
        FROM_ONE.put("6 setDoor to close it", (m, level) -> m.setDoor(level, false));
        FROM_ONE.put("6 setDoor to open it", (m, level) -> m.setDoor(level, true));
        FROM_ONE.put("7 airOf", MineHoist::airOf);
        FROM_ONE.put("8 airByPaths", MineHoist::airByPaths);
        FROM_ONE.put("10 gasOf", MineHoist::gasOf);
        FROM_ONE.put("11 gasShare", MineHoist::gasShare);
        FROM_ONE.put("12 isAlarm", MineHoist::isAlarm);
        FROM_ONE.put("16 minutesToAlarm", MineHoist::minutesToAlarm);
        FROM_ONE.put("22 blast", (m, level) -> m.blast(level, 1));
        FROM_ONE.put("23 isClosed", MineHoist::isClosed);
        FROM_ONE.put("25 sendDown", (m, level) -> m.sendDown(level, 1));
        FROM_ONE.put("26 callUp", (m, level) -> m.callUp(level, 1));
        FROM_ONE.put("27 hoistOre", MineHoist::hoistOre);
    }

    public static void main(String[] args) {
        for (int count : new int[] {0, 1, 3, 6}) {
            FROM_SURFACE.forEach((name, call) -> edges("promise " + name, call, 0, count));
            FROM_ONE.forEach((name, call) -> edges("promise " + name, call, 1, count));
        }
        eachLevelIsItself();
        Check.end("LevelNumbersTest");
    }

    private static MineHoist mineOf(int count) {
        MineHoist x = new MineHoist();
        for (int level = 1; level <= count; level++) {
            x.addLevel(100 * level, 100, level, 1);
        }
        x.setFan(0);
        x.hire(40);
        return x;
    }

    private static void edges(String name, Call call, int least, int count) {
        String what = name + " in a mine of " + count + ", level ";
        Supplier<MineHoist> scene = () -> mineOf(count);
        for (int level = least; level <= count; level++) {
            int number = level;
            Check.taken(what + level, scene.get(), m -> call.ask(m, number));
        }
        int[] outside = {least - 1, count + 1, count + 2, -2, 7, 1000, Integer.MIN_VALUE, Integer.MAX_VALUE};
        for (int level : outside) {
            Check.refused(what + level, IndexOutOfBoundsException.class, scene, m -> call.ask(m, level));
        }
    }

    /** What is done to the first and to the last of six levels is done to that level alone. */
    private static void eachLevelIsItself() {
        for (int level : new int[] {1, 6}) {
            MineHoist x = mineOf(6);
            x.setLimit(1000);
            x.sendDown(level, level);
            x.pass(8);
            x.blast(7 - level, 2);
            x.setFan(100);
            x.setDoor(level, false);
            for (int other = 1; other <= 6; other++) {
                boolean isBlasted = other == 7 - level;
                String what = "level " + other + " after calls with " + level + " and " + (7 - level);
                Check.due("depth of " + what, 100 * other, x.depthOf(other));
                Check.due("people on " + what, other == level ? level : 0, x.peopleAt(other));
                Check.due("ore on " + what, isBlasted ? 6 : 0, x.oreAt(other));
                Check.due("gas on " + what, isBlasted ? 18 : 8, x.gasOf(other));
                Check.due("share on " + what, isBlasted ? 180 : 80, x.gasShare(other));
                Check.due("closed is " + what, isBlasted, x.isClosed(other));
                Check.due("air comes to " + what, other != level, x.airOf(other) > 0);
                Check.due("air by paths to " + what, x.airOf(other), x.airByPaths(other));
            }
        }
    }
}
