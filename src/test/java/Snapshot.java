import java.util.function.Supplier;

/** All that the observers of a mine tell, as one text. */
final class Snapshot {
    private Snapshot() {
    }

    static String of(MineHoist x) {
        StringBuilder text = new StringBuilder();
        int levels = x.levelCount();
        text.append("levels ").append(levels);
        for (int level = 0; level <= levels; level++) {
            text.append("\n").append(level).append(':').append(x.depthOf(level));
            text.append(" people ").append(x.peopleAt(level)).append(" ore ").append(x.oreAt(level));
        }
        for (int level = 1; level <= levels; level++) {
            int number = level;
            text.append("\n").append(level).append(": air ").append(x.airOf(level));
            text.append(' ').append(x.airByPaths(level));
            text.append(" gas ").append(x.gasOf(level)).append(" share ").append(x.gasShare(level));
            text.append(" alarm ").append(x.isAlarm(level)).append(" closed ").append(x.isClosed(level));
            text.append(" soon ").append(answer(() -> x.minutesToAlarm(number)));
        }
        text.append("\ngas ").append(x.gasTotal()).append(' ').append(x.ventedTotal());
        text.append(" mean ").append(answer(x::meanShare));
        text.append(" people ").append(x.peopleTotal()).append(' ').append(x.endangered());
        appendHoist(text, x);
        appendLine(text, x);
        return text.toString();
    }

    private static void appendHoist(StringBuilder text, MineHoist x) {
        text.append("\nwaiting");
        for (int position = 0; position < x.waitingCount(); position++) {
            int number = x.waitingAt(position);
            text.append(' ').append(number).append('(').append(answer(() -> x.waitFor(number))).append(')');
        }
        text.append(" clock ").append(x.clock()).append(" trip ").append(x.tripKind());
        text.append(' ').append(answer(x::tripLevel)).append(' ').append(answer(x::tripLoad));
        text.append(' ').append(answer(x::tripRest)).append(" cage ").append(x.cageLevel());
        text.append(" done ").append(x.doneCount()).append(" dropped ").append(x.droppedCount());
        text.append(" consistent ").append(x.isConsistent());
        appendPresentRequest(text, x);
    }

    /** No call tells the number of the request of the present trip, so it is searched for. */
    private static void appendPresentRequest(StringBuilder text, MineHoist x) {
        char kind = x.tripKind();
        for (int number = 0; number < 20 && kind != '-' && kind != 'f'; number++) {
            int request = number;
            text.append(' ').append(answer(() -> x.waitFor(request)));
        }
    }

    private static void appendLine(StringBuilder text, MineHoist x) {
        text.append("\nline '").append(line(x)).append("'");
    }

    /** The line, read to the first index that is refused. */
    static String line(MineHoist x) {
        StringBuilder text = new StringBuilder();
        for (int index = 0; index < 100; index++) {
            try {
                text.append(x.lineAt(index));
            } catch (IndexOutOfBoundsException e) {
                return text.toString();
            }
        }
        return text.toString();
    }

    /** What can be seen only by setting it anew, so it comes last. */
    static String ofSettings(MineHoist x) {
        StringBuilder text = new StringBuilder();
        text.append("fan ").append(x.setFan(0)).append(" limit ").append(x.setLimit(1));
        text.append(" speed ").append(x.setSpeed(10)).append(" doors");
        for (int level = 1; level <= x.levelCount(); level++) {
            text.append(' ').append(x.setDoor(level, false));
        }
        if (x.waitingCount() == 8) {
            x.cancel(x.waitingAt(0));
        }
        text.append(" next ").append(answer(() -> x.hoistOre(1)));
        return text.toString();
    }

    private static String answer(Supplier<Object> call) {
        try {
            return String.valueOf(call.get());
        } catch (RuntimeException e) {
            return e.getClass().getSimpleName();
        }
    }

    /** The kind, the level, the load and the rest of the present trip, or just the kind of none. */
    static String trip(MineHoist x) {
        if (x.tripKind() == '-') {
            return "-";
        }
        return x.tripKind() + " " + x.tripLevel() + " " + x.tripLoad() + " " + x.tripRest();
    }

    /** The numbers of the requests that wait, from the oldest one. */
    static String waiting(MineHoist x) {
        StringBuilder text = new StringBuilder();
        for (int position = 0; position < x.waitingCount(); position++) {
            text.append(position > 0 ? " " : "").append(x.waitingAt(position));
        }
        return text.toString();
    }
}
