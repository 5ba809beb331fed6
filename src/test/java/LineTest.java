/** Promises 42 and 43: the line. */
final class LineTest {
    public static void main(String[] args) {
        promise42WriteTrip();
        promise42LongNumbers();
        promise42InPlaceOfTheLineBefore();
        promise43LineAt();
        Check.end("LineTest");
    }

    private static void written(String due, MineHoist x) {
        Check.due("writeTrip of '" + due + "'", due.length(), x.writeTrip());
        Check.due("the line", due, Snapshot.line(x));
    }

    private static void promise42WriteTrip() {
        written("none", new MineHoist());
        written("down 12 L2 3min", Scenes.goingDown());
        MineHoist up = Scenes.peopleBelow();
        up.callUp(2, 5);
        up.pass(1);
        written("up 5 L2 3min", up);
        MineHoist ore = Scenes.blasted();
        ore.hoistOre(1);
        ore.pass(1);
        written("ore 20 L1 2min", ore);
        MineHoist flight = Scenes.alarmed();
        flight.pass(1);
        written("flight 12 L1 1min", flight);
        flight.pass(1);
        written("none", flight);
    }

    private static void promise42LongNumbers() {
        MineHoist x = new MineHoist();
        for (int level = 1; level <= 6; level++) {
            x.addLevel(level == 6 ? 2000 : level * 300, 100, 1, 0);
        }
        x.setSpeed(10);
        x.setLimit(1000);
        x.blast(6, 20);
        x.hoistOre(6);
        x.pass(1);
        written("ore 20 L6 400min", x);
        x.pass(60);
        written("ore 20 L6 340min", x);
        x.pass(60);
        x.pass(60);
        x.pass(60);
        x.pass(60);
        written("ore 20 L6 100min", x);
        x.pass(1);
        written("ore 20 L6 99min", x);
        x.pass(60);
        x.pass(29);
        written("ore 20 L6 10min", x);
        x.pass(1);
        written("ore 20 L6 9min", x);
    }

    private static void promise42InPlaceOfTheLineBefore() {
        MineHoist x = Scenes.quiet();
        x.writeTrip();
        x.sendDown(2, 12);
        x.pass(1);
        Check.due("the line before it is written anew", "none", Snapshot.line(x));
        x.writeTrip();
        x.pass(1);
        Check.due("the line a minute later", "down 12 L2 3min", Snapshot.line(x));
        x.pass(2);
        x.writeTrip();
        Check.due("a shorter line in its place", "none", Snapshot.line(x));
    }

    private static void promise43LineAt() {
        MineHoist x = Scenes.goingDown();
        x.writeTrip();
        Check.due("lineAt(0)", 'd', x.lineAt(0));
        Check.due("lineAt(4)", ' ', x.lineAt(4));
        Check.due("lineAt(8)", 'L', x.lineAt(8));
        Check.due("lineAt(14)", 'n', x.lineAt(14));
        for (int index : new int[] {-1, 0, 1, Integer.MIN_VALUE, Integer.MAX_VALUE}) {
            Check.refused("lineAt(" + index + ") of the empty line", IndexOutOfBoundsException.class,
                    Scenes::goingDown, m -> m.lineAt(index));
        }
        for (int index : new int[] {-1, 15, 16, Integer.MIN_VALUE, Integer.MAX_VALUE}) {
            Check.refused("lineAt(" + index + ") of 15", IndexOutOfBoundsException.class, () -> {
                MineHoist m = Scenes.goingDown();
                m.writeTrip();
                return m;
            }, m -> m.lineAt(index));
        }
        for (int index : new int[] {4, 14}) {
            Check.refused("lineAt(" + index + ") of 4", IndexOutOfBoundsException.class, () -> {
                MineHoist m = Scenes.goingDown();
                m.writeTrip();
                m.pass(3);
                m.writeTrip();
                return m;
            }, m -> m.lineAt(index));
        }
    }
}
