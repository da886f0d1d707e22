import java.util.ArrayList;
import java.util.List;

/** The document once more, written in another way than BagCarousel: what AgreementTest compares it with. */
final class Model {
    private static final class Flight {
        Integer chute;
        boolean gone;
    }

    private static final class Bag {
        Flight flight;
        int size;
        int smudge;
        Integer read;
        int misses;
        /** Null for none. */
        Boolean openFile;
    }

    private final List<Flight> flights = new ArrayList<>();
    private final List<Bag> bags = new ArrayList<>();
    private final List<Bag> line = new ArrayList<>();
    private final List<Bag> desk = new ArrayList<>();
    private final List<Bag> bigRoom = new ArrayList<>();
    private final List<Bag> loaded = new ArrayList<>();
    private final List<List<Bag>> chutes = new ArrayList<>();
    private final int[] rooms = {5, 5, 5, 5};
    private final Bag[] belt = new Bag[12];
    private int minute;
    private int strength = 5;

    Model() {
        for (int chute = 0; chute < 4; chute++) {
            chutes.add(new ArrayList<>());
        }
    }

    private Model copy() {
        Model other = new Model();
        for (Flight flight : flights) {
            Flight twin = new Flight();
            twin.chute = flight.chute;
            twin.gone = flight.gone;
            other.flights.add(twin);
        }
        for (Bag bag : bags) {
            Bag twin = new Bag();
            twin.flight = other.flights.get(flights.indexOf(bag.flight));
            twin.size = bag.size;
            twin.smudge = bag.smudge;
            twin.read = bag.read;
            twin.misses = bag.misses;
            twin.openFile = bag.openFile;
            other.bags.add(twin);
        }
        copyBags(line, other, other.line);
        copyBags(desk, other, other.desk);
        copyBags(bigRoom, other, other.bigRoom);
        copyBags(loaded, other, other.loaded);
        for (int chute = 0; chute < 4; chute++) {
            copyBags(chutes.get(chute), other, other.chutes.get(chute));
            other.rooms[chute] = rooms[chute];
        }
        for (int place = 0; place < 12; place++) {
            other.belt[place] = belt[place] == null ? null : other.bags.get(bags.indexOf(belt[place]));
        }
        other.minute = minute;
        other.strength = strength;
        return other;
    }

    private void copyBags(List<Bag> from, Model other, List<Bag> to) {
        for (Bag bag : from) {
            to.add(other.bags.get(bags.indexOf(bag)));
        }
    }

    private Flight flight(int number) {
        if (number < 0 || number >= flights.size()) {
            throw new IndexOutOfBoundsException();
        }
        return flights.get(number);
    }

    private Bag bag(int number) {
        if (number < 0 || number >= bags.size()) {
            throw new IndexOutOfBoundsException();
        }
        return bags.get(number);
    }

    private List<Bag> chute(int number) {
        if (number < 0 || number > 3) {
            throw new IndexOutOfBoundsException();
        }
        return chutes.get(number);
    }

    private static void argument(int number, int least, int most) {
        if (number < least || number > most) {
            throw new IllegalArgumentException();
        }
    }

    private static void state(boolean holds) {
        if (!holds) {
            throw new IllegalStateException();
        }
    }

    int addFlight() {
        state(flights.size() < 6);
        flights.add(new Flight());
        return flights.size() - 1;
    }

    int giveChute(int flight, int chute) {
        Flight it = flight(flight);
        chute(chute);
        state(!it.gone);
        List<Bag> before = new ArrayList<>();
        for (Bag bag : bags) {
            if (misrouted(bag)) {
                before.add(bag);
            }
        }
        it.chute = chute;
        int more = 0;
        for (Bag bag : bags) {
            if (misrouted(bag) && !before.contains(bag)) {
                more++;
            }
        }
        return more;
    }

    int setReader(int strength) {
        argument(strength, 0, 9);
        int before = this.strength;
        this.strength = strength;
        return before;
    }

    int setRoom(int chute, int room) {
        chute(chute);
        argument(room, 1, 20);
        int before = rooms[chute];
        rooms[chute] = room;
        return before;
    }

    int checkIn(int flight, int size, int smudge) {
        Bag bag = new Bag();
        bag.flight = flight(flight);
        argument(size, 1, 9);
        argument(smudge, 0, 9);
        state(bags.size() < 40 && !bag.flight.gone);
        bag.size = size;
        bag.smudge = smudge;
        bags.add(bag);
        (size > 7 ? bigRoom : line).add(bag);
        return bags.size() - 1;
    }

    int carry(int bag) {
        Bag it = bag(bag);
        state(desk.contains(it) || bigRoom.contains(it));
        state(!it.flight.gone && it.flight.chute != null);
        int chute = it.flight.chute;
        state(chutes.get(chute).size() < rooms[chute]);
        desk.remove(it);
        bigRoom.remove(it);
        chutes.get(chute).add(it);
        return chute;
    }

    int forward(int bag, int flight) {
        Bag it = bag(bag);
        Flight next = flight(flight);
        state(desk.contains(it) || bigRoom.contains(it));
        state(it.flight.gone && !next.gone);
        desk.remove(it);
        bigRoom.remove(it);
        it.flight = next;
        it.read = null;
        it.misses = 0;
        close(it);
        (it.size > 7 ? bigRoom : line).add(it);
        return line.size();
    }

    private static void close(Bag bag) {
        bag.openFile = bag.openFile == null ? null : Boolean.FALSE;
    }

    int sweep(int chute) {
        List<Bag> swept = new ArrayList<>();
        for (Bag bag : chute(chute)) {
            if (misrouted(bag)) {
                swept.add(bag);
                close(bag);
            }
        }
        chute(chute).removeAll(swept);
        desk.addAll(swept);
        return swept.size();
    }

    int depart(int flight) {
        Flight it = flight(flight);
        state(!it.gone);
        int count = 0;
        for (Bag bag : bags) {
            if (bag.flight != it) {
                continue;
            }
            if (it.chute != null && chutes.get(it.chute).remove(bag)) {
                loaded.add(bag);
                count++;
            } else {
                bag.openFile = true;
            }
        }
        it.gone = true;
        return count;
    }

    int pass(int minutes) {
        argument(minutes, 1, 60);
        int before = inChutes();
        for (int gone = 0; gone < minutes; gone++) {
            step();
        }
        return inChutes() - before;
    }

    private int inChutes() {
        int sum = 0;
        for (List<Bag> chute : chutes) {
            sum += chute.size();
        }
        return sum;
    }

    private void step() {
        Bag[] before = belt.clone();
        for (int place = 0; place < 12; place++) {
            belt[(place + 1) % 12] = before[place];
        }
        Bag seen = belt[2];
        if (seen != null && seen.read == null) {
            if (seen.smudge <= strength && seen.flight.chute != null) {
                seen.read = seen.flight.chute;
            } else {
                seen.misses++;
                if (seen.misses == 3) {
                    belt[2] = null;
                    desk.add(seen);
                }
            }
        }
        for (int chute = 0; chute < 4; chute++) {
            Bag there = belt[4 + 2 * chute];
            if (there != null && there.read != null && there.read == chute
                    && chutes.get(chute).size() < rooms[chute]) {
                belt[4 + 2 * chute] = null;
                chutes.get(chute).add(there);
            }
        }
        if (belt[0] == null && !line.isEmpty()) {
            belt[0] = line.remove(0);
        }
        minute++;
    }

    private boolean misrouted(Bag bag) {
        int chute = chuteWith(bag);
        return chute >= 0 && (bag.flight.gone || bag.flight.chute == null || bag.flight.chute != chute);
    }

    private int chuteWith(Bag bag) {
        for (int chute = 0; chute < 4; chute++) {
            if (chutes.get(chute).contains(bag)) {
                return chute;
            }
        }
        return -1;
    }

    private int placeWith(Bag bag) {
        for (int place = 0; place < 12; place++) {
            if (belt[place] == bag) {
                return place;
            }
        }
        return -1;
    }

    int flightOf(int bag) {
        return flights.indexOf(bag(bag).flight);
    }

    int whereIs(int bag) {
        Bag it = bag(bag);
        if (line.contains(it)) {
            return 0;
        }
        if (placeWith(it) >= 0) {
            return 1;
        }
        if (chuteWith(it) >= 0) {
            return 2;
        }
        return desk.contains(it) ? 3 : bigRoom.contains(it) ? 4 : 5;
    }

    int placeOf(int bag) {
        return placeWith(bag(bag));
    }

    int chuteOf(int bag) {
        return chuteWith(bag(bag));
    }

    int readFor(int bag) {
        Integer read = bag(bag).read;
        return read == null ? -1 : read;
    }

    int missesOf(int bag) {
        return bag(bag).misses;
    }

    boolean isMisrouted(int bag) {
        return misrouted(bag(bag));
    }

    boolean hasOpenFile(int bag) {
        return Boolean.TRUE.equals(bag(bag).openFile);
    }

    int bagAt(int place) {
        if (place < 0 || place > 11) {
            throw new IndexOutOfBoundsException();
        }
        return bags.indexOf(belt[place]);
    }

    int bagsIn(int chute) {
        return chute(chute).size();
    }

    int misroutedIn(int chute) {
        int count = 0;
        for (Bag bag : chute(chute)) {
            count += misrouted(bag) ? 1 : 0;
        }
        return count;
    }

    int roomOf(int chute) {
        chute(chute);
        return rooms[chute];
    }

    int chuteOfFlight(int flight) {
        Integer chute = flight(flight).chute;
        return chute == null ? -1 : chute;
    }

    boolean isGone(int flight) {
        return flight(flight).gone;
    }

    int readyOf(int flight) {
        Flight it = flight(flight);
        int count = 0;
        for (Bag bag : bags) {
            boolean inItsChute = !it.gone && it.chute != null && chutes.get(it.chute).contains(bag);
            count += bag.flight == it && (loaded.contains(bag) || inItsChute) ? 1 : 0;
        }
        return count;
    }

    int missingOf(int flight) {
        int count = 0;
        for (Bag bag : bags) {
            count += bag.flight == flight(flight) ? 1 : 0;
        }
        return count - readyOf(flight);
    }

    int minute() {
        return minute;
    }

    int flights() {
        return flights.size();
    }

    int bags() {
        return bags.size();
    }

    int inLine() {
        return line.size();
    }

    int onBelt() {
        int count = 0;
        for (Bag bag : belt) {
            count += bag == null ? 0 : 1;
        }
        return count;
    }

    int atDesk() {
        return desk.size();
    }

    int openFiles() {
        int count = 0;
        for (Bag bag : bags) {
            count += Boolean.TRUE.equals(bag.openFile) ? 1 : 0;
        }
        return count;
    }

    int closedFiles() {
        int count = 0;
        for (Bag bag : bags) {
            count += Boolean.FALSE.equals(bag.openFile) ? 1 : 0;
        }
        return count;
    }

    int reader() {
        return strength;
    }

    int minutesUntilChute(int bag) {
        bag(bag);
        Model would = copy();
        for (int minutes = 0; minutes <= 120; minutes++) {
            if (would.chuteOf(bag) >= 0) {
                return minutes;
            }
            would.step();
        }
        return -1;
    }

    int readyAfter(int flight, int minutes) {
        flight(flight);
        argument(minutes, 1, 60);
        Model would = copy();
        would.pass(minutes);
        return would.readyOf(flight);
    }

    int bestChute(int flight, int minutes) {
        Flight it = flight(flight);
        argument(minutes, 1, 60);
        state(!it.gone);
        int best = 3;
        int most = 0;
        for (int chute = 3; chute >= 0; chute--) {
            Model would = copy();
            would.giveChute(flight, chute);
            would.pass(minutes);
            if (would.readyOf(flight) >= most) {
                most = would.readyOf(flight);
                best = chute;
            }
        }
        return best;
    }

    double meanMisses() {
        if (bags.isEmpty()) {
            return 0;
        }
        double sum = 0;
        for (Bag bag : bags) {
            sum += bag.misses;
        }
        return sum / bags.size();
    }

    long digest() {
        List<Integer> numbers = new ArrayList<>(List.of(minute(), flights(), bags(), inLine(), onBelt(), atDesk()));
        numbers.addAll(List.of(openFiles(), closedFiles(), reader()));
        for (int bag = 0; bag < bags(); bag++) {
            numbers.addAll(List.of(flightOf(bag), whereIs(bag), placeOf(bag), chuteOf(bag), readFor(bag)));
            numbers.addAll(List.of(missesOf(bag), isMisrouted(bag) ? 1 : 0, hasOpenFile(bag) ? 1 : 0));
        }
        for (int chute = 0; chute < 4; chute++) {
            numbers.addAll(List.of(bagsIn(chute), misroutedIn(chute), roomOf(chute)));
        }
        for (int flight = 0; flight < flights(); flight++) {
            numbers.addAll(List.of(chuteOfFlight(flight), isGone(flight) ? 1 : 0, readyOf(flight), missingOf(flight)));
        }
        long sum = 1867;
        for (int number : numbers) {
            sum = sum * 31 + number;
        }
        return sum;
    }
}
