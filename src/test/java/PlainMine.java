import java.util.ArrayList;
import java.util.Arrays;
import java.util.List;
import java.util.NoSuchElementException;

/**
 * The document a second time, in another way than MineHoist: rows of numbers, lists, a new copy for each look ahead,
 * and the air found by walking one unit after the other. RandomTest sets it beside MineHoist.
 */
public final class PlainMine {
    private int levels;
    private final int[] depth = new int[7];
    private final int[] size = new int[7];
    private final int[] width = new int[7];
    private final int[] inflow = new int[7];
    private final boolean[] door = new boolean[7];
    private final int[] gas = new int[7];
    private final int[] people = new int[7];
    private final int[] ore = new int[7];
    private final int[] blastAt = new int[7];
    private int fan = 100;
    private int limit = 20;
    private int speed = 100;
    private int clock;
    private int gasIn;
    private int gasOut;
    private List<int[]> waiting = new ArrayList<>();
    private int requests;
    private int[] trip;
    private int tripRest;
    private int cage;
    private final List<Integer> ended = new ArrayList<>();
    private int done;
    private int dropped;
    private String line = "";

    public PlainMine() {
        Arrays.fill(blastAt, -1000);
    }

    private PlainMine copy() {
        PlainMine c = new PlainMine();
        c.levels = levels;
        int[][] from = {depth, size, width, inflow, gas, people, ore, blastAt};
        int[][] to = {c.depth, c.size, c.width, c.inflow, c.gas, c.people, c.ore, c.blastAt};
        for (int i = 0; i < from.length; i++) {
            System.arraycopy(from[i], 0, to[i], 0, 7);
        }
        System.arraycopy(door, 0, c.door, 0, 7);
        c.fan = fan;
        c.limit = limit;
        c.speed = speed;
        c.clock = clock;
        c.waiting = new ArrayList<>(waiting);
        c.trip = trip;
        c.tripRest = tripRest;
        c.cage = cage;
        return c;
    }

    public int addLevel(int newDepth, int newSize, int newWidth, int newInflow) {
        boolean fits = newDepth >= 10 && newDepth <= 2000 && newSize >= 1 && newSize <= 500
                && newWidth >= 1 && newWidth <= 20 && newInflow >= 0 && newInflow <= 50;
        if (!fits || levels > 0 && newDepth <= depth[levels]) {
            throw new IllegalArgumentException();
        }
        if (levels == 6 || clock != 0) {
            throw new IllegalStateException();
        }
        levels++;
        depth[levels] = newDepth;
        size[levels] = newSize;
        width[levels] = newWidth;
        inflow[levels] = newInflow;
        door[levels] = true;
        return levels;
    }

    public int levelCount() {
        return levels;
    }

    public int depthOf(int level) {
        return depth[known(level, 0)];
    }

    public int setFan(int volume) {
        int before = fan;
        fan = ranged(volume, 0, 1000);
        return before;
    }

    public boolean setDoor(int level, boolean isOpen) {
        boolean before = door[known(level, 1)];
        door[level] = isOpen;
        return before;
    }

    public int airOf(int level) {
        return airs()[known(level, 1)];
    }

    public int airByPaths(int level) {
        return airs()[known(level, 1)];
    }

    /** Each unit walks down; a counter at each level tells as the how manyth it comes there. */
    private int[] airs() {
        int[] arrived = new int[7];
        int[] stayed = new int[7];
        for (int unit = 0; unit < fan; unit++) {
            for (int level = 1; level <= levels; level++) {
                int below = 0;
                for (int deeper = level + 1; deeper <= levels; deeper++) {
                    below += door[deeper] ? width[deeper] : 0;
                }
                int j = ++arrived[level];
                int all = width[level] + below;
                boolean stays = j * width[level] / all != (j - 1) * width[level] / all;
                if (door[level] && (below == 0 || stays)) {
                    stayed[level]++;
                    break;
                }
            }
        }
        return stayed;
    }

    public int setLimit(int newLimit) {
        int before = limit;
        limit = ranged(newLimit, 1, 1000);
        return before;
    }

    public int gasOf(int level) {
        return gas[known(level, 1)];
    }

    public int gasShare(int level) {
        return 1000 * gas[known(level, 1)] / size[level];
    }

    public boolean isAlarm(int level) {
        return gasShare(level) >= limit;
    }

    public int gasTotal() {
        return gasIn;
    }

    public int ventedTotal() {
        return gasOut;
    }

    public double meanShare() {
        if (levels == 0) {
            throw new ArithmeticException();
        }
        double sum = 0;
        for (int level = 1; level <= levels; level++) {
            sum += gasShare(level);
        }
        return sum / levels;
    }

    public int minutesToAlarm(int level) {
        known(level, 1);
        PlainMine later = copy();
        int[] air = later.airs();
        for (int minutes = 0; minutes <= 500; minutes++) {
            if (later.isAlarm(level)) {
                return minutes;
            }
            later.minute(air);
        }
        throw new NoSuchElementException();
    }

    public int hire(int count) {
        ranged(count, 1, 99);
        if (peopleTotal() + count > 200) {
            throw new IllegalStateException();
        }
        return people[0] += count;
    }

    public int peopleAt(int level) {
        return people[known(level, 0)];
    }

    public int peopleTotal() {
        int below = trip != null && trip[0] != 'o' ? trip[2] : 0;
        return below + Arrays.stream(people).sum();
    }

    public int endangered() {
        int sum = 0;
        for (int level = 1; level <= levels; level++) {
            sum += isAlarm(level) ? people[level] : 0;
        }
        return sum;
    }

    public int oreAt(int level) {
        return ore[known(level, 0)];
    }

    public int blast(int level, int charge) {
        known(level, 1);
        ranged(charge, 1, 20);
        if (isClosed(level)) {
            throw new IllegalStateException();
        }
        if (people[level] != 0 || trip != null && trip[1] == level) {
            throw new UnsupportedOperationException();
        }
        gas[level] += charge * 5;
        gasIn += charge * 5;
        ore[level] += charge * 3;
        blastAt[level] = clock;
        return clock + 30;
    }

    public boolean isClosed(int level) {
        return clock - blastAt[known(level, 1)] < 30;
    }

    public int setSpeed(int newSpeed) {
        int before = speed;
        speed = ranged(newSpeed, 10, 500);
        return before;
    }

    public int sendDown(int level, int count) {
        known(level, 1);
        ranged(count, 1, 12);
        if (isAlarm(level) || isClosed(level)) {
            throw new UnsupportedOperationException();
        }
        return request('d', level, count);
    }

    public int callUp(int level, int count) {
        known(level, 1);
        ranged(count, 1, 12);
        return request('u', level, count);
    }

    public int hoistOre(int level) {
        known(level, 1);
        return request('o', level, 20);
    }

    private int request(char kind, int level, int count) {
        if (waiting.size() == 8) {
            throw new IllegalStateException();
        }
        waiting.add(new int[] {kind, level, count, requests});
        return requests++;
    }

    public int cancel(int request) {
        if (!waiting.removeIf(r -> r[3] == request)) {
            throw new NoSuchElementException();
        }
        return waiting.size();
    }

    public int waitingCount() {
        return waiting.size();
    }

    public int waitingAt(int position) {
        return waiting.get(position)[3];
    }

    public int pass(int minutes) {
        ranged(minutes, 1, 60);
        if (clock + minutes > 5000) {
            throw new IllegalStateException();
        }
        int[] air = airs();
        for (int i = 0; i < minutes; i++) {
            minute(air);
        }
        return clock;
    }

    private void minute(int[] air) {
        for (int level = 1; level <= levels; level++) {
            gas[level] += inflow[level];
            gasIn += inflow[level];
            int taken = gas[level] * Math.min(size[level], air[level]) / size[level];
            gas[level] -= taken;
            gasOut += taken;
        }
        if (trip == null) {
            trip = flight();
        }
        if (trip == null) {
            trip = taken(true);
        }
        if (trip == null) {
            trip = taken(false);
        }
        if (trip != null && --tripRest == 0) {
            boolean isDown = trip[0] == 'd';
            (trip[0] == 'o' ? ore : people)[isDown ? trip[1] : 0] += trip[2];
            cage = isDown ? trip[1] : 0;
            ended.add(trip[3]);
            done++;
            trip = null;
        }
        clock++;
    }

    private int[] flight() {
        int to = 0;
        for (int level = levels; level >= 1; level--) {
            if (isAlarm(level) && people[level] > 0 && (to == 0 || gasShare(level) >= gasShare(to))) {
                to = level;
            }
        }
        return to == 0 ? null : begun('f', to, Math.min(12, people[to]), -1);
    }

    private int[] taken(boolean ofPeople) {
        for (int[] r : new ArrayList<>(waiting)) {
            if ((r[0] != 'o') != ofPeople) {
                continue;
            }
            waiting.remove(r);
            int there = r[0] == 'd' ? people[0] : r[0] == 'u' ? people[r[1]] : ore[r[1]];
            boolean barred = r[0] == 'd' && (isAlarm(r[1]) || isClosed(r[1]));
            if (there > 0 && !barred) {
                return begun((char) r[0], r[1], Math.min(there, r[2]), r[3]);
            }
            dropped++;
        }
        return null;
    }

    private int[] begun(char kind, int level, int load, int request) {
        int from = kind == 'd' ? 0 : level;
        (kind == 'o' ? ore : people)[from] -= load;
        tripRest = 1 + way(cage, from) + way(0, level);
        return new int[] {kind, level, load, request};
    }

    private int way(int one, int other) {
        return (int) Math.ceil(Math.abs(depth[one] - depth[other]) / (double) speed);
    }

    public int clock() {
        return clock;
    }

    public char tripKind() {
        return trip == null ? '-' : (char) trip[0];
    }

    public int tripLevel() {
        return present()[1];
    }

    public int tripLoad() {
        return present()[2];
    }

    public int tripRest() {
        present();
        return tripRest;
    }

    public int cageLevel() {
        return cage;
    }

    public int doneCount() {
        return done;
    }

    public int droppedCount() {
        return dropped;
    }

    public int waitFor(int request) {
        boolean isPresent = trip != null && trip[0] != 'f' && trip[3] == request;
        if (!isPresent && waiting.stream().noneMatch(r -> r[3] == request)) {
            throw new NoSuchElementException();
        }
        PlainMine later = copy();
        int[] air = later.airs();
        for (int minutes = 1; minutes <= 500; minutes++) {
            later.minute(air);
            if (later.ended.contains(request)) {
                return minutes;
            }
        }
        throw new UnsupportedOperationException();
    }

    public boolean isConsistent() {
        return true;
    }

    public int writeTrip() {
        String word = "none";
        if (trip != null) {
            word = trip[0] == 'f' ? "flight" : trip[0] == 'd' ? "down" : trip[0] == 'u' ? "up" : "ore";
        }
        line = trip == null ? word : word + " " + trip[2] + " L" + trip[1] + " " + tripRest + "min";
        return line.length();
    }

    public char lineAt(int index) {
        return line.charAt(index);
    }

    private int known(int level, int least) {
        if (level < least || level > levels) {
            throw new IndexOutOfBoundsException();
        }
        return level;
    }

    private static int ranged(int value, int least, int most) {
        if (value < least || value > most) {
            throw new IllegalArgumentException();
        }
        return value;
    }

    private int[] present() {
        if (trip == null) {
            throw new NoSuchElementException();
        }
        return trip;
    }
}
