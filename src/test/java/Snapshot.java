import java.util.LinkedHashMap;
import java.util.Map;
import java.util.Set;
import java.util.TreeSet;
import java.util.function.Supplier;

/** All that the observers of a mine tell. */
final class Snapshot {
    private Snapshot() {
    }

    /** What has another answer now, as "call before > now", in the order of the calls' names; "?" stands for none. */
    static String difference(Map<String, String> before, Map<String, String> now) {
        Set<String> calls = new TreeSet<>(before.keySet());
        calls.addAll(now.keySet());
        StringBuilder text = new StringBuilder();
        for (String call : calls) {
            String was = before.getOrDefault(call, "?");
            String is = now.getOrDefault(call, "?");
            if (!was.equals(is)) {
                text.append(text.length() > 0 ? ", " : "").append(call);
                text.append(' ').append(was).append(" > ").append(is);
            }
        }
        return text.toString();
    }

    /** The call of each observer with its answer. */
    static Map<String, String> facts(MineHoist x) {
        Map<String, String> facts = new LinkedHashMap<>();
        int levels = x.levelCount();
        facts.put("levelCount", String.valueOf(levels));
        for (int level = 0; level <= levels; level++) {
            putPlace(facts, x, level);
        }
        for (int level = 1; level <= levels; level++) {
            putLevel(facts, x, level);
        }
        facts.put("gasTotal", String.valueOf(x.gasTotal()));
        facts.put("ventedTotal", String.valueOf(x.ventedTotal()));
        facts.put("meanShare", answer(x::meanShare));
        facts.put("peopleTotal", String.valueOf(x.peopleTotal()));
        facts.put("endangered", String.valueOf(x.endangered()));
        putHoist(facts, x);
        putWaits(facts, x);
        facts.put("line", "'" + line(x) + "'");
        return facts;
    }

    private static void putPlace(Map<String, String> facts, MineHoist x, int level) {
        String of = "(" + level + ")";
        facts.put("depthOf" + of, String.valueOf(x.depthOf(level)));
        facts.put("peopleAt" + of, String.valueOf(x.peopleAt(level)));
        facts.put("oreAt" + of, String.valueOf(x.oreAt(level)));
    }

    private static void putLevel(Map<String, String> facts, MineHoist x, int level) {
        String of = "(" + level + ")";
        facts.put("airOf" + of, String.valueOf(x.airOf(level)));
        facts.put("airByPaths" + of, String.valueOf(x.airByPaths(level)));
        facts.put("gasOf" + of, String.valueOf(x.gasOf(level)));
        facts.put("gasShare" + of, String.valueOf(x.gasShare(level)));
        facts.put("isAlarm" + of, String.valueOf(x.isAlarm(level)));
        facts.put("isClosed" + of, String.valueOf(x.isClosed(level)));
        facts.put("minutesToAlarm" + of, answer(() -> x.minutesToAlarm(level)));
    }

    private static void putHoist(Map<String, String> facts, MineHoist x) {
        facts.put("waitingCount", String.valueOf(x.waitingCount()));
        facts.put("waiting", waiting(x));
        facts.put("clock", String.valueOf(x.clock()));
        facts.put("tripKind", String.valueOf(x.tripKind()));
        facts.put("tripLevel", answer(x::tripLevel));
        facts.put("tripLoad", answer(x::tripLoad));
        facts.put("tripRest", answer(x::tripRest));
        facts.put("cageLevel", String.valueOf(x.cageLevel()));
        facts.put("doneCount", String.valueOf(x.doneCount()));
        facts.put("droppedCount", String.valueOf(x.droppedCount()));
        facts.put("isConsistent", String.valueOf(x.isConsistent()));
    }

    /** No call tells the number of the request of the present trip, so it is searched for. */
    private static void putWaits(Map<String, String> facts, MineHoist x) {
        for (int position = 0; position < x.waitingCount(); position++) {
            int number = x.waitingAt(position);
            facts.put("waitFor(" + number + ")", answer(() -> x.waitFor(number)));
        }
        boolean isForRequest = x.tripKind() != '-' && x.tripKind() != 'f';
        for (int number = 0; number < 20 && isForRequest; number++) {
            int request = number;
            String answer = answer(() -> x.waitFor(request));
            if (!answer.equals("NoSuchElementException")) {
                facts.put("waitFor(" + number + ")", answer);
            }
        }
    }

    /** The line, read to the first index that is refused. */
    static String line(MineHoist x) {
        StringBuilder text = new StringBuilder();
        for (int index = 0; index < 100; index++) {
            try {
                text.append(x.lineAt(index));
            } catch (IndexOutOfBoundsException e) {
                return text.toString();
            }
        }
        return text.toString();
    }

    /** What can be seen only by setting it anew, so it comes last. */
    static Map<String, String> settings(MineHoist x) {
        Map<String, String> settings = new LinkedHashMap<>();
        settings.put("fan", String.valueOf(x.setFan(0)));
        settings.put("limit", String.valueOf(x.setLimit(1)));
        settings.put("speed", String.valueOf(x.setSpeed(10)));
        for (int level = 1; level <= x.levelCount(); level++) {
            settings.put("door " + level, String.valueOf(x.setDoor(level, false)));
        }
        if (x.waitingCount() == 8) {
            x.cancel(x.waitingAt(0));
        }
        settings.put("next request", answer(() -> x.hoistOre(1)));
        return settings;
    }

    private static String answer(Supplier<Object> call) {
        try {
            return String.valueOf(call.get());
        } catch (RuntimeException e) {
            return e.getClass().getSimpleName();
        }
    }

    /** The kind, the level, the load and the rest of the present trip, or just the kind of none. */
    static String trip(MineHoist x) {
        if (x.tripKind() == '-') {
            return "-";
        }
        return x.tripKind() + " " + x.tripLevel() + " " + x.tripLoad() + " " + x.tripRest();
    }

    /** The numbers of the requests that wait, from the oldest one. */
    static String waiting(MineHoist x) {
        StringBuilder text = new StringBuilder();
        for (int position = 0; position < x.waitingCount(); position++) {
            text.append(position > 0 ? " " : "").append(x.waitingAt(position));
        }
        return text.toString();
    }
}
