import java.util.Arrays;

/** A baggage hall: a belt, a reader, chutes, flights and their bags. */
public final class BagCarousel {
    private static final int NONE = -1;

    private static final int PLACES = 12;
    private static final int READER_PLACE = 2;
    private static final int STRONGEST = 9;
    private static final int FIRST_STRENGTH = 5;
    private static final int MOST_MISSES = 3;

    private static final int CHUTES = 4;
    private static final int FIRST_CHUTE_PLACE = 4;
    private static final int CHUTE_DISTANCE = 2;
    private static final int MOST_ROOM = 20;
    private static final int FIRST_ROOM = 5;

    private static final int MOST_FLIGHTS = 6;
    private static final int NOT_GONE = 0;
    private static final int GONE = 1;

    private static final int MOST_BAGS = 40;
    private static final int BIGGEST = 9;
    private static final int BIGGEST_ON_BELT = 7;
    private static final int MOST_SMUDGED = 9;

    private static final int IN_LINE = 0;
    private static final int ON_BELT = 1;
    private static final int IN_CHUTE = 2;
    private static final int AT_DESK = 3;
    private static final int IN_BIG_ROOM = 4;
    private static final int LOADED = 5;

    private static final int NO_FILE = 0;
    private static final int OPEN_FILE = 1;
    private static final int CLOSED_FILE = 2;

    private static final int MOST_MINUTES = 60;
    private static final int FARTHEST_MINUTE = 120;

    private static final long DIGEST_START = 1867L;
    private static final long DIGEST_FACTOR = 31L;

    private final Hall hall;

    // Questions about what would be are tried out here: made once, so that no question makes a hall of its own.
    private final Hall trial;

    public BagCarousel() {
        hall = new Hall();
        trial = new Hall();
    }

    // ---- the hall

    public int addFlight() throws IllegalStateException {
        if (hall.flights.count >= MOST_FLIGHTS) {
            throw new IllegalStateException("there are all the flights already");
        }
        return hall.flights.addOne();
    }

    public int giveChute(int flight, int chute) throws IndexOutOfBoundsException, IllegalStateException {
        needFlight(flight);
        needChute(chute);
        needNotGone(flight);
        return hall.changeChute(flight, chute);
    }

    public int setReader(int strength) throws IllegalArgumentException {
        if (strength < 0 || strength > STRONGEST) {
            throw new IllegalArgumentException("the strength is not 0 to 9");
        }
        int before = hall.strength;
        hall.strength = strength;
        return before;
    }

    public int setRoom(int chute, int room) throws IndexOutOfBoundsException, IllegalArgumentException {
        needChute(chute);
        if (room < 1 || room > MOST_ROOM) {
            throw new IllegalArgumentException("the room is not 1 to 20");
        }
        int before = hall.rooms.at(chute);
        hall.rooms.put(chute, room);
        return before;
    }

    // ---- bags

    public int checkIn(int flight, int size, int smudge)
            throws IndexOutOfBoundsException, IllegalArgumentException, IllegalStateException {
        needFlight(flight);
        if (size < 1 || size > BIGGEST || smudge < 0 || smudge > MOST_SMUDGED) {
            throw new IllegalArgumentException("the size is not 1 to 9, or the smudge not 0 to 9");
        }
        if (hall.bags.count >= MOST_BAGS) {
            throw new IllegalStateException("there are all the bags already");
        }
        needNotGone(flight);
        int bag = hall.bags.addOne(flight, size, smudge);
        hall.takeIn(bag);
        return bag;
    }

    public int carry(int bag) throws IndexOutOfBoundsException, IllegalStateException {
        needBag(bag);
        needInHand(bag);
        int flight = hall.bags.flight.at(bag);
        needNotGone(flight);
        int chute = hall.flights.chute.at(flight);
        if (!isChute(chute) || !hall.hasRoom(chute)) {
            throw new IllegalStateException("the flight has no chute, or its chute no room");
        }
        hall.bags.putIntoChute(bag, chute);
        return chute;
    }

    public int forward(int bag, int flight) throws IndexOutOfBoundsException, IllegalStateException {
        needBag(bag);
        needFlight(flight);
        needInHand(bag);
        if (!hall.flights.hasLeft(hall.bags.flight.at(bag))) {
            throw new IllegalStateException("the bag's flight is not gone");
        }
        needNotGone(flight);
        hall.bags.renew(bag, flight);
        hall.takeIn(bag);
        return hall.lineCount;
    }

    public int sweep(int chute) throws IndexOutOfBoundsException {
        needChute(chute);
        return hall.clearMisrouted(chute);
    }

    public int depart(int flight) throws IndexOutOfBoundsException, IllegalStateException {
        needFlight(flight);
        needNotGone(flight);
        return hall.letLeave(flight);
    }

    public int pass(int minutes) throws IllegalArgumentException {
        needMinutes(minutes);
        return hall.goMinutes(minutes);
    }

    // ---- bags: what there is

    public int flightOf(int bag) throws IndexOutOfBoundsException {
        needBag(bag);
        return hall.bags.flight.at(bag);
    }

    public int whereIs(int bag) throws IndexOutOfBoundsException {
        needBag(bag);
        return hall.bags.where.at(bag);
    }

    public int placeOf(int bag) throws IndexOutOfBoundsException {
        needBag(bag);
        return hall.findOnBelt(bag);
    }

    public int chuteOf(int bag) throws IndexOutOfBoundsException {
        needBag(bag);
        return hall.bags.chute.at(bag);
    }

    public int readFor(int bag) throws IndexOutOfBoundsException {
        needBag(bag);
        return hall.bags.read.at(bag);
    }

    public int missesOf(int bag) throws IndexOutOfBoundsException {
        needBag(bag);
        return hall.bags.misses.at(bag);
    }

    public boolean isMisrouted(int bag) throws IndexOutOfBoundsException {
        needBag(bag);
        return hall.isAstray(bag);
    }

    public boolean hasOpenFile(int bag) throws IndexOutOfBoundsException {
        needBag(bag);
        return hall.bags.file.at(bag) == OPEN_FILE;
    }

    // ---- the hall: what there is

    public int bagAt(int place) throws IndexOutOfBoundsException {
        if (place < 0 || place >= PLACES) {
            throw new IndexOutOfBoundsException("there is no such place");
        }
        return hall.belt.at(place);
    }

    public int bagsIn(int chute) throws IndexOutOfBoundsException {
        needChute(chute);
        return hall.bags.chute.count(chute);
    }

    public int misroutedIn(int chute) throws IndexOutOfBoundsException {
        needChute(chute);
        return hall.countMisrouted(chute);
    }

    public int roomOf(int chute) throws IndexOutOfBoundsException {
        needChute(chute);
        return hall.rooms.at(chute);
    }

    public int chuteOfFlight(int flight) throws IndexOutOfBoundsException {
        needFlight(flight);
        return hall.flights.chute.at(flight);
    }

    public boolean isGone(int flight) throws IndexOutOfBoundsException {
        needFlight(flight);
        return hall.flights.hasLeft(flight);
    }

    public int readyOf(int flight) throws IndexOutOfBoundsException {
        needFlight(flight);
        return hall.countReady(flight);
    }

    public int missingOf(int flight) throws IndexOutOfBoundsException {
        needFlight(flight);
        return hall.countMissing(flight);
    }

    public int minute() {
        return hall.minutesGone;
    }

    public int flights() {
        return hall.flights.count;
    }

    public int bags() {
        return hall.bags.count;
    }

    public int inLine() {
        return hall.bags.where.count(IN_LINE);
    }

    public int onBelt() {
        return hall.bags.where.count(ON_BELT);
    }

    public int atDesk() {
        return hall.bags.where.count(AT_DESK);
    }

    public int openFiles() {
        return hall.bags.file.count(OPEN_FILE);
    }

    public int closedFiles() {
        return hall.bags.file.count(CLOSED_FILE);
    }

    public int reader() {
        return hall.strength;
    }

    // ---- what would be

    public int minutesUntilChute(int bag) throws IndexOutOfBoundsException {
        needBag(bag);
        trial.becomeLike(hall);
        for (int minutes = 0; minutes <= FARTHEST_MINUTE; minutes++) {
            if (trial.bags.where.at(bag) == IN_CHUTE) {
                return minutes;
            }
            trial.goMinute();
        }
        return NONE;
    }

    public int readyAfter(int flight, int minutes) throws IndexOutOfBoundsException, IllegalArgumentException {
        needFlight(flight);
        needMinutes(minutes);
        return readyWithChute(flight, hall.flights.chute.at(flight), minutes);
    }

    public int bestChute(int flight, int minutes)
            throws IndexOutOfBoundsException, IllegalArgumentException, IllegalStateException {
        needFlight(flight);
        needMinutes(minutes);
        needNotGone(flight);
        int best = 0;
        int most = NONE;
        for (int chute = 0; chute < CHUTES; chute++) {
            int ready = readyWithChute(flight, chute, minutes);
            if (ready > most) {
                most = ready;
                best = chute;
            }
        }
        return best;
    }

    public double meanMisses() {
        int count = hall.bags.count;
        return count > 0 ? (double) hall.bags.misses.sum() / count : 0.0;
    }

    public long digest() {
        long sum = addHall(DIGEST_START);
        for (int bag = 0; bag < hall.bags.count; bag++) {
            sum = addBag(sum, bag);
        }
        for (int chute = 0; chute < CHUTES; chute++) {
            sum = addChute(sum, chute);
        }
        for (int flight = 0; flight < hall.flights.count; flight++) {
            sum = addOfFlight(sum, flight);
        }
        return sum;
    }

    // ---- the digest's parts

    private long addHall(long start) {
        long sum = addNumber(start, hall.minutesGone);
        sum = addNumber(sum, hall.flights.count);
        sum = addNumber(sum, hall.bags.count);
        sum = addNumber(sum, hall.bags.where.count(IN_LINE));
        sum = addNumber(sum, hall.bags.where.count(ON_BELT));
        sum = addNumber(sum, hall.bags.where.count(AT_DESK));
        sum = addNumber(sum, hall.bags.file.count(OPEN_FILE));
        sum = addNumber(sum, hall.bags.file.count(CLOSED_FILE));
        return addNumber(sum, hall.strength);
    }

    private long addBag(long start, int bag) {
        long sum = addNumber(start, hall.bags.flight.at(bag));
        sum = addNumber(sum, hall.bags.where.at(bag));
        sum = addNumber(sum, hall.findOnBelt(bag));
        sum = addNumber(sum, hall.bags.chute.at(bag));
        sum = addNumber(sum, hall.bags.read.at(bag));
        sum = addNumber(sum, hall.bags.misses.at(bag));
        sum = addNumber(sum, hall.isAstray(bag) ? 1 : 0);
        return addNumber(sum, hall.bags.file.at(bag) == OPEN_FILE ? 1 : 0);
    }

    private long addChute(long start, int chute) {
        long sum = addNumber(start, hall.bags.chute.count(chute));
        sum = addNumber(sum, hall.countMisrouted(chute));
        return addNumber(sum, hall.rooms.at(chute));
    }

    private long addOfFlight(long start, int flight) {
        long sum = addNumber(start, hall.flights.chute.at(flight));
        sum = addNumber(sum, hall.flights.hasLeft(flight) ? 1 : 0);
        sum = addNumber(sum, hall.countReady(flight));
        return addNumber(sum, hall.countMissing(flight));
    }

    private static long addNumber(long sum, long number) {
        return sum * DIGEST_FACTOR + number;
    }

    // ---- what a call needs

    private void needBag(int bag) {
        if (bag < 0 || bag >= hall.bags.count) {
            throw new IndexOutOfBoundsException("there is no such bag");
        }
    }

    private void needFlight(int flight) {
        if (flight < 0 || flight >= hall.flights.count) {
            throw new IndexOutOfBoundsException("there is no such flight");
        }
    }

    private static void needChute(int chute) {
        if (!isChute(chute)) {
            throw new IndexOutOfBoundsException("there is no such chute");
        }
    }

    private static void needMinutes(int minutes) {
        if (minutes < 1 || minutes > MOST_MINUTES) {
            throw new IllegalArgumentException("the minutes are not 1 to 60");
        }
    }

    private void needNotGone(int flight) {
        if (hall.flights.hasLeft(flight)) {
            throw new IllegalStateException("the flight is gone");
        }
    }

    private void needInHand(int bag) {
        int where = hall.bags.where.at(bag);
        if (where != AT_DESK && where != IN_BIG_ROOM) {
            throw new IllegalStateException("the bag is neither at the desk nor in the room for big ones");
        }
    }

    private static boolean isChute(int chute) {
        return chute >= 0 && chute < CHUTES;
    }

    private int readyWithChute(int flight, int chute, int minutes) {
        trial.becomeLike(hall);
        trial.flights.chute.put(flight, chute);
        trial.goMinutes(minutes);
        return trial.countReady(flight);
    }

    /** A row of numbers that looks at each index before it is used: beyond its ends it holds NONE. */
    private static final class Row {
        private final int[] cells;

        Row(int[] cells, int first) {
            this.cells = cells;
            Arrays.fill(cells, first);
        }

        int at(int index) {
            return index >= 0 && index < cells.length ? cells[index] : NONE;
        }

        void put(int index, int value) {
            if (index >= 0 && index < cells.length) {
                cells[index] = value;
            }
        }

        void takeAll(Row other) {
            System.arraycopy(other.cells, 0, cells, 0, Math.min(cells.length, other.cells.length));
        }

        /** Moves every number one cell on, the last one to the front. */
        void turn() {
            int last = at(cells.length - 1);
            for (int index = cells.length - 1; index > 0; index--) {
                put(index, at(index - 1));
            }
            put(0, last);
        }

        /** Takes the front number out and lets the others move up. */
        int takeFront() {
            int front = at(0);
            for (int index = 1; index < cells.length; index++) {
                put(index - 1, at(index));
            }
            put(cells.length - 1, NONE);
            return front;
        }

        int count(int value) {
            int found = 0;
            for (int cell : cells) {
                if (cell == value) {
                    found++;
                }
            }
            return found;
        }

        int sum() {
            int sum = 0;
            for (int cell : cells) {
                sum += cell;
            }
            return sum;
        }

        int find(int value) {
            for (int index = 0; index < cells.length; index++) {
                if (cells[index] == value) {
                    return index;
                }
            }
            return NONE;
        }
    }

    /** The flights, by their numbers. */
    private static final class Flights {
        int count;
        final Row chute = new Row(new int[MOST_FLIGHTS], NONE);
        final Row gone = new Row(new int[MOST_FLIGHTS], NOT_GONE);

        int addOne() {
            int flight = count;
            count++;
            return flight;
        }

        boolean hasLeft(int flight) {
            return gone.at(flight) == GONE;
        }

        void takeAll(Flights other) {
            count = other.count;
            chute.takeAll(other.chute);
            gone.takeAll(other.gone);
        }
    }

    /** The bags, by their numbers; a number that no bag has yet holds nothing that is counted. */
    private static final class Bags {
        int count;
        final Row flight = new Row(new int[MOST_BAGS], NONE);
        final Row size = new Row(new int[MOST_BAGS], 0);
        final Row smudge = new Row(new int[MOST_BAGS], 0);
        final Row where = new Row(new int[MOST_BAGS], NONE);
        final Row chute = new Row(new int[MOST_BAGS], NONE);
        final Row read = new Row(new int[MOST_BAGS], NONE);
        final Row misses = new Row(new int[MOST_BAGS], 0);
        final Row file = new Row(new int[MOST_BAGS], NO_FILE);

        int addOne(int itsFlight, int itsSize, int itsSmudge) {
            int bag = count;
            count++;
            flight.put(bag, itsFlight);
            size.put(bag, itsSize);
            smudge.put(bag, itsSmudge);
            return bag;
        }

        /** Gives a bag another flight, as if it had only now been checked in. */
        void renew(int bag, int itsFlight) {
            flight.put(bag, itsFlight);
            read.put(bag, NONE);
            misses.put(bag, 0);
            closeFile(bag);
        }

        void putIntoChute(int bag, int itsChute) {
            where.put(bag, IN_CHUTE);
            chute.put(bag, itsChute);
        }

        void takeFromChute(int bag, int itsWhere) {
            where.put(bag, itsWhere);
            chute.put(bag, NONE);
        }

        void closeFile(int bag) {
            if (file.at(bag) == OPEN_FILE) {
                file.put(bag, CLOSED_FILE);
            }
        }

        void takeAll(Bags other) {
            count = other.count;
            flight.takeAll(other.flight);
            size.takeAll(other.size);
            smudge.takeAll(other.smudge);
            where.takeAll(other.where);
            chute.takeAll(other.chute);
            read.takeAll(other.read);
            misses.takeAll(other.misses);
            file.takeAll(other.file);
        }
    }

    /** All that there is, and how it changes; who calls it has looked at the numbers before. */
    private static final class Hall {
        int minutesGone;
        int strength = FIRST_STRENGTH;
        int lineCount;
        final Flights flights = new Flights();
        final Bags bags = new Bags();
        final Row rooms = new Row(new int[CHUTES], FIRST_ROOM);
        final Row belt = new Row(new int[PLACES], NONE);
        final Row line = new Row(new int[MOST_BAGS], NONE);

        void becomeLike(Hall other) {
            minutesGone = other.minutesGone;
            strength = other.strength;
            lineCount = other.lineCount;
            flights.takeAll(other.flights);
            bags.takeAll(other.bags);
            rooms.takeAll(other.rooms);
            belt.takeAll(other.belt);
            line.takeAll(other.line);
        }

        void takeIn(int bag) {
            if (bags.size.at(bag) > BIGGEST_ON_BELT) {
                bags.where.put(bag, IN_BIG_ROOM);
                return;
            }
            bags.where.put(bag, IN_LINE);
            line.put(lineCount, bag);
            lineCount++;
        }

        int changeChute(int flight, int chute) {
            int misrouted = 0;
            for (int bag = 0; bag < bags.count; bag++) {
                if (bags.flight.at(bag) == flight && isInOwnChute(bag) && bags.chute.at(bag) != chute) {
                    misrouted++;
                }
            }
            flights.chute.put(flight, chute);
            return misrouted;
        }

        int clearMisrouted(int chute) {
            int swept = 0;
            for (int bag = 0; bag < bags.count; bag++) {
                if (bags.chute.at(bag) == chute && isAstray(bag)) {
                    bags.takeFromChute(bag, AT_DESK);
                    bags.closeFile(bag);
                    swept++;
                }
            }
            return swept;
        }

        int letLeave(int flight) {
            int loaded = 0;
            for (int bag = 0; bag < bags.count; bag++) {
                if (bags.flight.at(bag) != flight) {
                    continue;
                }
                if (isInOwnChute(bag)) {
                    bags.takeFromChute(bag, LOADED);
                    loaded++;
                } else {
                    bags.file.put(bag, OPEN_FILE);
                }
            }
            flights.gone.put(flight, GONE);
            return loaded;
        }

        // ---- the course of a minute

        int goMinutes(int minutes) {
            int came = 0;
            for (int gone = 0; gone < minutes; gone++) {
                came += goMinute();
            }
            return came;
        }

        int goMinute() {
            belt.turn();
            readTag();
            int came = fillChutes();
            feedBelt();
            minutesGone++;
            return came;
        }

        void readTag() {
            int bag = belt.at(READER_PLACE);
            if (bag == NONE || bags.read.at(bag) != NONE) {
                return;
            }
            int chute = flights.chute.at(bags.flight.at(bag));
            if (bags.smudge.at(bag) <= strength && chute != NONE) {
                bags.read.put(bag, chute);
            } else {
                missTag(bag);
            }
        }

        void missTag(int bag) {
            int misses = bags.misses.at(bag) + 1;
            bags.misses.put(bag, misses);
            if (misses >= MOST_MISSES) {
                belt.put(READER_PLACE, NONE);
                bags.where.put(bag, AT_DESK);
            }
        }

        int fillChutes() {
            int came = 0;
            for (int chute = 0; chute < CHUTES; chute++) {
                int place = FIRST_CHUTE_PLACE + CHUTE_DISTANCE * chute;
                int bag = belt.at(place);
                if (bag != NONE && bags.read.at(bag) == chute && hasRoom(chute)) {
                    belt.put(place, NONE);
                    bags.putIntoChute(bag, chute);
                    came++;
                }
            }
            return came;
        }

        void feedBelt() {
            if (belt.at(0) != NONE || lineCount <= 0) {
                return;
            }
            int bag = line.takeFront();
            lineCount--;
            belt.put(0, bag);
            bags.where.put(bag, ON_BELT);
        }

        // ---- what there is

        boolean hasRoom(int chute) {
            return bags.chute.count(chute) < rooms.at(chute);
        }

        int findOnBelt(int bag) {
            return belt.find(bag);
        }

        boolean isInOwnChute(int bag) {
            return bags.where.at(bag) == IN_CHUTE && bags.chute.at(bag) == flights.chute.at(bags.flight.at(bag));
        }

        boolean isAstray(int bag) {
            return bags.where.at(bag) == IN_CHUTE && (!isInOwnChute(bag) || flights.hasLeft(bags.flight.at(bag)));
        }

        boolean isReady(int bag) {
            if (bags.where.at(bag) == LOADED) {
                return true;
            }
            return isInOwnChute(bag) && !flights.hasLeft(bags.flight.at(bag));
        }

        int countMisrouted(int chute) {
            int found = 0;
            for (int bag = 0; bag < bags.count; bag++) {
                if (bags.chute.at(bag) == chute && isAstray(bag)) {
                    found++;
                }
            }
            return found;
        }

        int countReady(int flight) {
            int found = 0;
            for (int bag = 0; bag < bags.count; bag++) {
                if (bags.flight.at(bag) == flight && isReady(bag)) {
                    found++;
                }
            }
            return found;
        }

        int countMissing(int flight) {
            return bags.flight.count(flight) - countReady(flight);
        }
    }
}
