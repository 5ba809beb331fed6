import java.util.NoSuchElementException;

/** A mine with a hoist, a fan, blasts and gas. Levels are numbered from 1, and 0 stands for the surface. */
public final class MineHoist {
    private static final int SURFACE = 0;
    private static final int MOST_LEVELS = 6;
    private static final int MOST_WAITING = 8;
    private static final int MOST_PEOPLE = 200;
    private static final int MOST_PEOPLE_IN_CAGE = 12;
    private static final int MOST_ORE_IN_CAGE = 20;
    private static final int LAST_MINUTE = 5000;
    private static final int FORESIGHT = 500;
    private static final int CLOSED_MINUTES = 30;
    private static final int GAS_PER_CHARGE = 5;
    private static final int ORE_PER_CHARGE = 3;

    private static final char NO_TRIP = '-';
    private static final char FLIGHT = 'f';
    private static final char DOWN = 'd';
    private static final char UP = 'u';
    private static final char ORE = 'o';

    private static final int NO_REQUEST = -1;
    private static final int NEVER = -1;

    private final Mine mine;
    /** Made once and used again for each look ahead, so that a call makes no objects. */
    private final Mine trial;
    private final StringBuilder line;

    public MineHoist() {
        mine = new Mine();
        trial = new Mine();
        line = new StringBuilder();
    }

    // ---- levels and air

    public int addLevel(int depth, int size, int width, int inflow)
            throws IllegalArgumentException, IllegalStateException {
        checkRange(depth, 10, 2000);
        checkRange(size, 1, 500);
        checkRange(width, 1, 20);
        checkRange(inflow, 0, 50);
        if (depth <= mine.place(mine.levels).depth) {
            throw new IllegalArgumentException("not deeper than the level above");
        }
        if (mine.levels >= MOST_LEVELS || mine.minutes > 0) {
            throw new IllegalStateException("no more levels can be added");
        }
        mine.levels++;
        mine.place(mine.levels).open(depth, size, width, inflow);
        mine.spreadAir();
        return mine.levels;
    }

    public int levelCount() {
        return mine.levels;
    }

    public int depthOf(int level) throws IndexOutOfBoundsException {
        checkPlace(level);
        return mine.place(level).depth;
    }

    public int setFan(int volume) throws IllegalArgumentException {
        checkRange(volume, 0, 1000);
        int previous = mine.fan;
        mine.fan = volume;
        mine.spreadAir();
        return previous;
    }

    public boolean setDoor(int level, boolean isOpen) throws IndexOutOfBoundsException {
        checkLevel(level);
        Level place = mine.place(level);
        boolean wasOpen = place.hasOpenDoor;
        place.hasOpenDoor = isOpen;
        mine.spreadAir();
        return wasOpen;
    }

    public int airOf(int level) throws IndexOutOfBoundsException {
        checkLevel(level);
        return mine.place(level).air;
    }

    public int airByPaths(int level) throws IndexOutOfBoundsException {
        checkLevel(level);
        mine.followAir();
        return mine.place(level).unitsFollowed;
    }

    // ---- gas

    public int setLimit(int limit) throws IllegalArgumentException {
        checkRange(limit, 1, 1000);
        int previous = mine.limit;
        mine.limit = limit;
        return previous;
    }

    public int gasOf(int level) throws IndexOutOfBoundsException {
        checkLevel(level);
        return mine.place(level).gas;
    }

    public int gasShare(int level) throws IndexOutOfBoundsException {
        checkLevel(level);
        return mine.place(level).share();
    }

    public boolean isAlarm(int level) throws IndexOutOfBoundsException {
        checkLevel(level);
        return mine.hasAlarm(mine.place(level));
    }

    public int gasTotal() {
        return mine.gasIn;
    }

    public int ventedTotal() {
        return mine.gasVented;
    }

    public double meanShare() throws ArithmeticException {
        if (mine.levels == 0) {
            throw new ArithmeticException("no levels");
        }
        int sum = 0;
        for (int level = 1; level <= mine.levels; level++) {
            sum += mine.place(level).share();
        }
        return (double) sum / (double) mine.levels;
    }

    public int minutesToAlarm(int level) throws IndexOutOfBoundsException, NoSuchElementException {
        checkLevel(level);
        trial.copyFrom(mine);
        int minutes = trial.passToAlarm(trial.place(level));
        if (minutes == NEVER) {
            throw new NoSuchElementException("no alarm so soon");
        }
        return minutes;
    }

    // ---- people, ore and blasts

    public int hire(int count) throws IllegalArgumentException, IllegalStateException {
        checkRange(count, 1, 99);
        if (mine.allPeople() + count > MOST_PEOPLE) {
            throw new IllegalStateException("too many people");
        }
        mine.surface.people += count;
        return mine.surface.people;
    }

    public int peopleAt(int level) throws IndexOutOfBoundsException {
        checkPlace(level);
        return mine.place(level).people;
    }

    public int peopleTotal() {
        return mine.allPeople();
    }

    public int endangered() {
        int people = 0;
        for (int level = 1; level <= mine.levels; level++) {
            Level place = mine.place(level);
            if (mine.hasAlarm(place)) {
                people += place.people;
            }
        }
        return people;
    }

    public int oreAt(int level) throws IndexOutOfBoundsException {
        checkPlace(level);
        return mine.place(level).ore;
    }

    public int blast(int level, int charge) throws IndexOutOfBoundsException, IllegalArgumentException,
            IllegalStateException, UnsupportedOperationException {
        checkLevel(level);
        checkRange(charge, 1, 20);
        Level place = mine.place(level);
        if (mine.isShut(place)) {
            throw new IllegalStateException("the level is closed");
        }
        if (place.people > 0 || mine.trip.isTo(level)) {
            throw new UnsupportedOperationException("people or the hoist are in the way");
        }
        mine.letGasIn(place, GAS_PER_CHARGE * charge);
        place.ore += ORE_PER_CHARGE * charge;
        place.closedUntil = mine.minutes + CLOSED_MINUTES;
        return place.closedUntil;
    }

    public boolean isClosed(int level) throws IndexOutOfBoundsException {
        checkLevel(level);
        return mine.isShut(mine.place(level));
    }

    // ---- the hoist

    public int setSpeed(int speed) throws IllegalArgumentException {
        checkRange(speed, 10, 500);
        int previous = mine.speed;
        mine.speed = speed;
        return previous;
    }

    public int sendDown(int level, int count) throws IndexOutOfBoundsException, IllegalArgumentException,
            UnsupportedOperationException, IllegalStateException {
        checkLevel(level);
        checkRange(count, 1, MOST_PEOPLE_IN_CAGE);
        Level place = mine.place(level);
        if (mine.hasAlarm(place) || mine.isShut(place)) {
            throw new UnsupportedOperationException("nobody may go there now");
        }
        return request(DOWN, level, count);
    }

    public int callUp(int level, int count)
            throws IndexOutOfBoundsException, IllegalArgumentException, IllegalStateException {
        checkLevel(level);
        checkRange(count, 1, MOST_PEOPLE_IN_CAGE);
        return request(UP, level, count);
    }

    public int hoistOre(int level) throws IndexOutOfBoundsException, IllegalStateException {
        checkLevel(level);
        return request(ORE, level, MOST_ORE_IN_CAGE);
    }

    public int cancel(int request) throws NoSuchElementException {
        if (!mine.waiting.holds(request)) {
            throw new NoSuchElementException("no such request is waiting");
        }
        mine.waiting.remove(request);
        return mine.waiting.size;
    }

    public int waitingCount() {
        return mine.waiting.size;
    }

    public int waitingAt(int position) throws IndexOutOfBoundsException {
        if (position < 0 || position >= mine.waiting.size) {
            throw new IndexOutOfBoundsException("no such position");
        }
        return mine.waiting.numberAt(position);
    }

    public int pass(int minutes) throws IllegalArgumentException, IllegalStateException {
        checkRange(minutes, 1, 60);
        if (mine.minutes + minutes > LAST_MINUTE) {
            throw new IllegalStateException("the clock would be too great");
        }
        for (int minute = 0; minute < minutes; minute++) {
            mine.passMinute();
        }
        return mine.minutes;
    }

    public int clock() {
        return mine.minutes;
    }

    public char tripKind() {
        return mine.trip.kind;
    }

    public int tripLevel() throws NoSuchElementException {
        checkTrip();
        return mine.trip.level;
    }

    public int tripLoad() throws NoSuchElementException {
        checkTrip();
        return mine.trip.load;
    }

    public int tripRest() throws NoSuchElementException {
        checkTrip();
        return mine.trip.rest;
    }

    public int cageLevel() {
        return mine.cage;
    }

    public int doneCount() {
        return mine.tripsDone;
    }

    public int droppedCount() {
        return mine.requestsDropped;
    }

    public int waitFor(int request) throws NoSuchElementException, UnsupportedOperationException {
        if (!mine.isPending(request)) {
            throw new NoSuchElementException("the request is neither waiting nor on its way");
        }
        trial.copyFrom(mine);
        int minutes = trial.passToEndOf(request);
        if (minutes == NEVER) {
            throw new UnsupportedOperationException("no trip for the request would end so soon");
        }
        return minutes;
    }

    public boolean isConsistent() {
        mine.followAir();
        int gas = mine.gasVented;
        for (int level = 1; level <= mine.levels; level++) {
            Level place = mine.place(level);
            gas += place.gas;
            if (place.air != place.unitsFollowed) {
                return false;
            }
        }
        return gas == mine.gasIn;
    }

    // ---- line

    public int writeTrip() {
        Trip trip = mine.trip;
        line.setLength(0);
        line.append(trip.word());
        if (trip.isOn()) {
            line.append(' ').append(trip.load);
            line.append(" L").append(trip.level);
            line.append(' ').append(trip.rest).append("min");
        }
        return line.length();
    }

    public char lineAt(int index) throws IndexOutOfBoundsException {
        if (index < 0 || index >= line.length()) {
            throw new IndexOutOfBoundsException("no such character");
        }
        return line.charAt(index);
    }

    // ---- what several calls share

    private static void checkRange(int value, int least, int most) {
        if (value < least || value > most) {
            throw new IllegalArgumentException("out of range");
        }
    }

    private void checkLevel(int level) {
        if (level == SURFACE) {
            throw new IndexOutOfBoundsException("the surface is no level");
        }
        checkPlace(level);
    }

    private void checkPlace(int level) {
        if (level < SURFACE || level > mine.levels) {
            throw new IndexOutOfBoundsException("no such level");
        }
    }

    private void checkTrip() {
        if (!mine.trip.isOn()) {
            throw new NoSuchElementException("the hoist has no trip");
        }
    }

    private int request(char kind, int level, int count) {
        if (mine.waiting.size >= MOST_WAITING) {
            throw new IllegalStateException("too many requests are waiting");
        }
        int number = mine.nextRequest;
        mine.waiting.add(number, kind, level, count);
        mine.nextRequest++;
        return number;
    }

    /** A level or the surface; the surface has neither a size nor a gallery. */
    private static final class Level {
        int depth;
        int size;
        int width;
        int inflow;
        boolean hasOpenDoor;
        int air;
        int unitsFollowed;
        int gas;
        int people;
        int ore;
        int closedUntil;

        void open(int newDepth, int newSize, int newWidth, int newInflow) {
            depth = newDepth;
            size = newSize;
            width = newWidth;
            inflow = newInflow;
            hasOpenDoor = true;
        }

        void copyFrom(Level other) {
            depth = other.depth;
            size = other.size;
            width = other.width;
            inflow = other.inflow;
            hasOpenDoor = other.hasOpenDoor;
            air = other.air;
            unitsFollowed = other.unitsFollowed;
            gas = other.gas;
            people = other.people;
            ore = other.ore;
            closedUntil = other.closedUntil;
        }

        /** A closed door counts as a gallery without a width: all of the air goes on. */
        int openWidth() {
            return hasOpenDoor ? width : 0;
        }

        int share() {
            return size > 0 ? 1000 * gas / size : 0;
        }

        /** How much of its gas the air takes away in a minute. */
        int gasTaken() {
            return size > 0 ? gas * Math.min(air, size) / size : 0;
        }
    }

    private static final class Request {
        int number;
        char kind;
        int level;
        int count;

        void set(int newNumber, char newKind, int newLevel, int newCount) {
            number = newNumber;
            kind = newKind;
            level = newLevel;
            count = newCount;
        }
    }

    /** The requests that wait, from the oldest one; the rows behind them are spare. */
    private static final class Waiting {
        final Request[] rows = new Request[MOST_WAITING];
        int size;

        Waiting() {
            for (int i = 0; i < rows.length; i++) {
                rows[i] = new Request();
            }
        }

        void copyFrom(Waiting other) {
            size = other.size;
            for (int i = 0; i < rows.length && i < other.rows.length; i++) {
                Request row = other.rows[i];
                rows[i].set(row.number, row.kind, row.level, row.count);
            }
        }

        void add(int number, char kind, int level, int count) {
            if (size >= 0 && size < rows.length) {
                rows[size].set(number, kind, level, count);
                size++;
            }
        }

        int numberAt(int position) {
            return position >= 0 && position < rows.length ? rows[position].number : NO_REQUEST;
        }

        boolean holds(int number) {
            return positionOf(number) < size;
        }

        /** Where the request stands, or the number of requests if it is not there. */
        private int positionOf(int number) {
            int position = 0;
            while (position < size && numberAt(position) != number) {
                position++;
            }
            return position;
        }

        /** The row of the request becomes the last spare one, and keeps its content until it is used again. */
        void remove(int number) {
            int position = positionOf(number);
            if (position >= size || position >= rows.length) {
                return;
            }
            Request row = rows[position];
            for (int i = position; i + 1 < rows.length; i++) {
                rows[i] = rows[i + 1];
            }
            rows[rows.length - 1] = row;
            size--;
        }

        /** The oldest request for ore, or the oldest one for people; null if there is none. */
        Request oldest(boolean isForOre) {
            for (int i = 0; i < size && i < rows.length; i++) {
                if ((rows[i].kind == ORE) == isForOre) {
                    return rows[i];
                }
            }
            return null;
        }
    }

    /** The trip of the hoist, if it has one. */
    private static final class Trip {
        char kind = NO_TRIP;
        int level;
        int load;
        int rest;
        int request = NO_REQUEST;

        void set(char newKind, int newLevel, int newLoad, int newRest, int newRequest) {
            kind = newKind;
            level = newLevel;
            load = newLoad;
            rest = newRest;
            request = newRequest;
        }

        void copyFrom(Trip other) {
            set(other.kind, other.level, other.load, other.rest, other.request);
        }

        void clear() {
            set(NO_TRIP, SURFACE, 0, 0, NO_REQUEST);
        }

        boolean isOn() {
            return kind != NO_TRIP;
        }

        boolean isTo(int place) {
            return isOn() && level == place;
        }

        /** A flight has no request, so the number that stands for none must not find it. */
        boolean isFor(int number) {
            return isOn() && request != NO_REQUEST && request == number;
        }

        String word() {
            if (kind == FLIGHT) {
                return "flight";
            }
            if (kind == DOWN) {
                return "down";
            }
            if (kind == UP) {
                return "up";
            }
            return kind == ORE ? "ore" : "none";
        }
    }

    /** All that a minute reads and changes, so that a copy of it can look ahead. */
    private static final class Mine {
        final Level surface = new Level();
        final Level[] places = new Level[MOST_LEVELS + 1];
        final Waiting waiting = new Waiting();
        final Trip trip = new Trip();
        int levels;
        int fan = 100;
        int limit = 20;
        int speed = 100;
        int minutes;
        int gasIn;
        int gasVented;
        int nextRequest;
        int cage = SURFACE;
        int tripsDone;
        int requestsDropped;
        int requestDone = NO_REQUEST;

        Mine() {
            places[SURFACE] = surface;
            for (int i = 1; i < places.length; i++) {
                places[i] = new Level();
            }
        }

        void copyFrom(Mine other) {
            for (int i = 0; i < places.length && i < other.places.length; i++) {
                places[i].copyFrom(other.places[i]);
            }
            waiting.copyFrom(other.waiting);
            trip.copyFrom(other.trip);
            levels = other.levels;
            fan = other.fan;
            limit = other.limit;
            speed = other.speed;
            minutes = other.minutes;
            gasIn = other.gasIn;
            gasVented = other.gasVented;
            nextRequest = other.nextRequest;
            cage = other.cage;
            tripsDone = other.tripsDone;
            requestsDropped = other.requestsDropped;
            requestDone = other.requestDone;
        }

        Level place(int number) {
            return number >= 0 && number < places.length ? places[number] : surface;
        }

        boolean hasAlarm(Level place) {
            return place.share() >= limit;
        }

        boolean isShut(Level place) {
            return minutes < place.closedUntil;
        }

        boolean isPending(int request) {
            return waiting.holds(request) || trip.isFor(request);
        }

        int allPeople() {
            int people = trip.kind == ORE ? 0 : trip.load;
            for (int number = SURFACE; number <= levels; number++) {
                people += place(number).people;
            }
            return people;
        }

        private int openWidths() {
            int widths = 0;
            for (int number = 1; number <= levels; number++) {
                widths += place(number).openWidth();
            }
            return widths;
        }

        /** Gives each level its air, from branch to branch. */
        void spreadAir() {
            int arriving = fan;
            int widths = openWidths();
            for (int number = 1; number <= levels; number++) {
                Level place = place(number);
                place.air = intoGallery(arriving, place.openWidth(), widths);
                arriving -= place.air;
                widths -= place.openWidth();
            }
        }

        /** Gives each level the count of the units of air that come to it, following each of them. */
        void followAir() {
            for (int number = SURFACE; number <= levels; number++) {
                place(number).unitsFollowed = 0;
            }
            int widths = openWidths();
            for (int unit = 1; unit <= fan; unit++) {
                place(galleryOf(unit, widths)).unitsFollowed++;
            }
        }

        /** The level into whose gallery a unit goes, or the surface if all doors are closed. */
        private int galleryOf(int unit, int allWidths) {
            int rank = unit;
            int widths = allWidths;
            for (int number = 1; number <= levels; number++) {
                int width = place(number).openWidth();
                int into = intoGallery(rank, width, widths);
                if (into != intoGallery(rank - 1, width, widths)) {
                    return number;
                }
                rank -= into;
                widths -= width;
            }
            return SURFACE;
        }

        /** How many of the first units go into a gallery, of all the width from there on down. */
        private static int intoGallery(int units, int width, int widths) {
            return widths > 0 ? units * width / widths : 0;
        }

        void letGasIn(Level place, int volume) {
            place.gas += volume;
            gasIn += volume;
        }

        void passMinute() {
            for (int number = 1; number <= levels; number++) {
                moveGas(place(number));
            }
            if (!trip.isOn() && !startFlight() && !startRequest(false)) {
                startRequest(true);
            }
            if (trip.isOn()) {
                trip.rest--;
                if (trip.rest <= 0) {
                    endTrip();
                }
            }
            minutes++;
        }

        private void moveGas(Level place) {
            letGasIn(place, place.inflow);
            int taken = place.gasTaken();
            place.gas -= taken;
            gasVented += taken;
        }

        private boolean startFlight() {
            int worst = SURFACE;
            for (int number = 1; number <= levels; number++) {
                Level place = place(number);
                boolean isAsked = place.people > 0 && hasAlarm(place);
                if (isAsked && (worst == SURFACE || place.share() > place(worst).share())) {
                    worst = number;
                }
            }
            if (worst == SURFACE) {
                return false;
            }
            beginTrip(FLIGHT, worst, Math.min(place(worst).people, MOST_PEOPLE_IN_CAGE), NO_REQUEST);
            return true;
        }

        /** Takes the first request of the sort that has a load, and drops those before it. */
        private boolean startRequest(boolean isForOre) {
            for (int looked = 0; looked < MOST_WAITING; looked++) {
                Request request = waiting.oldest(isForOre);
                if (request == null) {
                    return false;
                }
                waiting.remove(request.number);
                int load = loadOf(request);
                if (load > 0) {
                    beginTrip(request.kind, request.level, load, request.number);
                    return true;
                }
                requestsDropped++;
            }
            return false;
        }

        /** What the hoist would take for a request now, 0 if the request is to be dropped. */
        private int loadOf(Request request) {
            Level place = place(request.level);
            if (request.kind == ORE) {
                return Math.min(place.ore, request.count);
            }
            if (request.kind == UP) {
                return Math.min(place.people, request.count);
            }
            if (hasAlarm(place) || isShut(place)) {
                return 0;
            }
            return Math.min(surface.people, request.count);
        }

        private void beginTrip(char kind, int level, int load, int request) {
            Level from = kind == DOWN ? surface : place(level);
            Level to = kind == DOWN ? place(level) : surface;
            int rest = 1 + way(place(cage), from) + way(from, to);
            carry(from, kind, -load);
            trip.set(kind, level, load, rest, request);
        }

        private void endTrip() {
            cage = trip.kind == DOWN ? trip.level : SURFACE;
            carry(place(cage), trip.kind, trip.load);
            requestDone = trip.request;
            tripsDone++;
            trip.clear();
        }

        private static void carry(Level place, char kind, int load) {
            if (kind == ORE) {
                place.ore += load;
            } else {
                place.people += load;
            }
        }

        private int way(Level from, Level to) {
            int distance = Math.abs(from.depth - to.depth);
            return speed > 0 ? (distance + speed - 1) / speed : 0;
        }

        /** Moves the gas of a level until there is an alarm, and tells for how many minutes, or NEVER. */
        int passToAlarm(Level place) {
            for (int passed = 0; passed <= FORESIGHT; passed++) {
                if (hasAlarm(place)) {
                    return passed;
                }
                moveGas(place);
            }
            return NEVER;
        }

        /** Lets minutes pass until the trip for a request ends, and tells how many, or NEVER. */
        int passToEndOf(int request) {
            for (int passed = 1; passed <= FORESIGHT && isPending(request); passed++) {
                passMinute();
                if (requestDone == request) {
                    return passed;
                }
            }
            return NEVER;
        }
    }
}
