import java.math.BigInteger;
import java.util.ArrayList;
import java.util.List;

/** The promises 37 to 41: the calls that tell what would be, the mean and the checksum. */
public final class EdgesOfWhatWouldBeTest {
    public static void main(String[] args) throws IllegalAccessException {
        Check.sentences(EdgesOfWhatWouldBeTest.class);
    }

    private static void due(String call, Object got, Object want) {
        Check.due(call, got, want);
    }

    // ---- promise 37

    @Sentence("Promise 37: 0 if it is now")
    static void nowInAChute() {
        BagCarousel hall = Halls.filled(3, 20);
        due("in its chute, the first", hall.minutesUntilChute(0), 0);
        due("in its chute, the last", hall.minutesUntilChute(19), 0);
        hall.giveChute(0, 0);
        due("in another chute", hall.minutesUntilChute(0), 0);
        due("in its chute behind its flight", Halls.late().minutesUntilChute(Halls.CHUTE_BAG), 0);
    }

    @Sentence("Promise 37: Returns behind how many minutes it is in a chute for the first time (the shortest time)")
    static void inAChuteBehindOneMinute() {
        BagCarousel hall = Halls.with(0);
        int bag = hall.checkIn(0, 1, 0);
        due("in line", hall.minutesUntilChute(bag), 5);
        hall.pass(4);
        due("before its chute", hall.minutesUntilChute(bag), 1);
        hall.pass(1);
        due("in it", hall.minutesUntilChute(bag), 0);
    }

    @Sentence("Promise 37: at most 120")
    static void inAChuteBehindTwoHours() {
        BagCarousel hall = behindThirtySix();
        due("behind 119", hall.minutesUntilChute(36), 119);
        due("behind 120", hall.minutesUntilChute(37), 120);
    }

    @Sentence("Promise 37: -1 if not by then")
    static void notInAChuteByThen() {
        BagCarousel hall = behindThirtySix();
        due("behind 121", hall.minutesUntilChute(38), -1);
        hall.pass(1);
        due("a minute later", hall.minutesUntilChute(38), 120);
    }

    /** Unread bags go round three times before three others of the chute 3 come onto the belt. */
    private static BagCarousel behindThirtySix() {
        BagCarousel hall = Halls.with(-1, 3);
        Halls.checkIn(hall, 0, 36, 0);
        Halls.checkIn(hall, 1, 3, 0);
        return hall;
    }

    @Sentence("Promise 37: -1 if not by then (missed three times)")
    static void neverRead() {
        BagCarousel hall = Halls.with(0);
        int bag = hall.checkIn(0, 1, 6);
        due("in line", hall.minutesUntilChute(bag), -1);
        hall.pass(26);
        due("before it is missed the third time", hall.minutesUntilChute(bag), -1);
        hall.setReader(6);
        due("before it is read", hall.minutesUntilChute(bag), 3);
    }

    @Sentence("Promise 37: -1 if not by then (at the desk, a big one, loaded)")
    static void neverOnTheBelt() {
        BagCarousel hall = Halls.busy();
        due("at the desk", hall.minutesUntilChute(Halls.DESK_BAG), -1);
        due("in the room for big ones", hall.minutesUntilChute(Halls.BIG_BAG), -1);
        due("loaded", hall.minutesUntilChute(Halls.LOADED_BAG), -1);
    }

    @Sentence("Promise 37: -1 if not by then (its chute is full)")
    static void neverRoom() {
        BagCarousel hall = Halls.filled(0, 20);
        int bag = hall.checkIn(0, 1, 0);
        due("with a full chute", hall.minutesUntilChute(bag), -1);
        due("beside less room than bags", fewerRooms().minutesUntilChute(2), -1);
        BagCarousel last = Halls.filled(0, 19);
        due("with room for one", last.minutesUntilChute(last.checkIn(0, 1, 0)), 5);
        due("for the next", last.minutesUntilChute(last.checkIn(0, 1, 0)), -1);
    }

    private static BagCarousel fewerRooms() {
        BagCarousel hall = Halls.filled(0, 2);
        hall.setRoom(0, 1);
        hall.checkIn(0, 1, 0);
        return hall;
    }

    @Sentence("Promise 37: it is in a chute, if nothing else is done (the one for which it was read)")
    static void inTheChuteForWhichItWasRead() {
        BagCarousel hall = Halls.with(0);
        int bag = hall.checkIn(0, 1, 0);
        hall.pass(3);
        hall.giveChute(0, 3);
        due("read for 0, its flight's is 3", hall.minutesUntilChute(bag), 2);
    }

    @Sentence("Promise 37: (nothing is changed)")
    static void askingForMinutesChangesNothing() {
        for (int bag = 0; bag < 6; bag++) {
            int asked = bag;
            Check.changesNothing(Halls::busy, "minutesUntilChute " + bag, hall -> hall.minutesUntilChute(asked));
            Check.changesNothing(Halls::late, "minutesUntilChute " + bag, hall -> hall.minutesUntilChute(asked));
        }
        Check.changesNothing(() -> Halls.lined(40), "minutesUntilChute(39)", hall -> hall.minutesUntilChute(39));
    }

    @Sentence("Promise 37: Throws IndexOutOfBoundsException if there is no such bag")
    static void minutesOfNoBag() {
        Check.refused(BagCarousel::new, "of none", Check.NO_SUCH, hall -> hall.minutesUntilChute(0));
        Check.refused(() -> Halls.lined(40), "of 40", Check.NO_SUCH, hall -> hall.minutesUntilChute(40));
        for (int bag : new int[] {-1, 6, 40}) {
            Check.refused(Halls::busy, "of " + bag, Check.NO_SUCH, hall -> hall.minutesUntilChute(bag));
        }
        for (int bag : Check.FAR_OFF) {
            Check.refused(Halls::busy, "of " + bag, Check.NO_SUCH, hall -> hall.minutesUntilChute(bag));
        }
    }

    // ---- promise 38

    @Sentence("Promise 38: what readyOf() would tell behind them (the shortest time)")
    static void readyAfterOne() {
        BagCarousel hall = Halls.with(0);
        hall.checkIn(0, 1, 0);
        hall.pass(3);
        due("readyAfter(0, 1), two minutes before", hall.readyAfter(0, 1), 0);
        due("readyAfter(0, 2), two minutes before", hall.readyAfter(0, 2), 1);
        hall.pass(1);
        due("readyAfter(0, 1), a minute before", hall.readyAfter(0, 1), 1);
    }

    @Sentence("Promise 38: what readyOf() would tell behind them (the longest time)")
    static void readyAfterSixty() {
        BagCarousel hall = Halls.with(-1, 3);
        hall.setRoom(3, 20);
        Halls.checkIn(hall, 0, 12, 0);
        Halls.checkIn(hall, 1, 15, 0);
        due("readyAfter(1, 59)", hall.readyAfter(1, 59), 13);
        due("readyAfter(1, 60)", hall.readyAfter(1, 60), 14);
        hall.pass(1);
        due("readyAfter(1, 60), a minute later", hall.readyAfter(1, 60), 15);
    }

    @Sentence("Promise 38: what readyOf() would tell behind them (none, and as many as there can be)")
    static void readyAfterNoneAndTwenty() {
        due("without bags", Halls.with(0).readyAfter(0, 60), 0);
        due("without a chute", Halls.lined(40).readyAfter(0, 60), 0);
        BagCarousel hall = Halls.with(0);
        hall.setRoom(0, 20);
        Halls.checkIn(hall, 0, 40, 0);
        due("with 40 bags and room for 20", hall.readyAfter(0, 60), 20);
        due("with 20 in the chute", Halls.filled(3, 20).readyAfter(0, 1), 20);
    }

    @Sentence("Promise 38: what readyOf() would tell behind them (of a gone flight)")
    static void readyAfterItIsGone() {
        due("readyAfter, with bags that come late", Halls.late().readyAfter(Halls.GONE_FLIGHT, 60), 1);
    }

    @Sentence("Promise 38: what readyOf() would tell behind them (each number of minutes)")
    static void readyAfterIsReadyOf() {
        for (int minutes = 1; minutes <= 60; minutes++) {
            BagCarousel hall = Halls.busy();
            int told = hall.readyAfter(Halls.FLIGHT, minutes);
            hall.pass(minutes);
            due("readyAfter " + minutes, told, hall.readyOf(Halls.FLIGHT));
        }
    }

    @Sentence("Promise 38: (nothing is changed)")
    static void askingForReadyChangesNothing() {
        for (int flight = 0; flight < 3; flight++) {
            int asked = flight;
            Check.changesNothing(Halls::busy, "readyAfter " + flight + ", 1", hall -> hall.readyAfter(asked, 1));
            Check.changesNothing(Halls::busy, "readyAfter " + flight + ", 60", hall -> hall.readyAfter(asked, 60));
            Check.changesNothing(Halls::late, "readyAfter " + flight + ", 60", hall -> hall.readyAfter(asked, 60));
        }
    }

    @Sentence("Promise 38: Throws IndexOutOfBoundsException if there is no such flight")
    static void readyAfterOfNoFlight() {
        Check.refused(BagCarousel::new, "of none", Check.NO_SUCH, hall -> hall.readyAfter(0, 1));
        for (int flight : new int[] {-1, 3, 6}) {
            Check.refused(Halls::busy, "of " + flight, Check.NO_SUCH, hall -> hall.readyAfter(flight, 1));
        }
        for (int flight : Check.FAR_OFF) {
            Check.refused(Halls::busy, "of " + flight, Check.NO_SUCH, hall -> hall.readyAfter(flight, 1));
        }
    }

    @Sentence("Promise 38: Throws IllegalArgumentException if minutes is not 1 to 60")
    static void readyAfterNoSuchMinutes() {
        due("readyAfter 1", Halls.busy().readyAfter(Halls.FLIGHT, 1), 1);
        due("readyAfter 60", Halls.busy().readyAfter(Halls.FLIGHT, 60), 3);
        for (int minutes : new int[] {0, -1, 61}) {
            Check.refused(Halls::busy, "behind " + minutes, Check.WRONG, hall -> hall.readyAfter(1, minutes));
        }
        for (int minutes : Check.FAR_OFF) {
            Check.refused(Halls::busy, "behind " + minutes, Check.WRONG, hall -> hall.readyAfter(1, minutes));
        }
    }

    // ---- promise 39

    @Sentence("Promise 39: so that readyOf() tells the most behind them (the first chute and the last)")
    static void bestIsFirstOrLast() {
        for (int chute = 0; chute < 4; chute++) {
            due("bestChute with bags in " + chute, Halls.filled(chute, 1).bestChute(0, 60), chute);
        }
    }

    @Sentence("Promise 39: of several the smallest number (none is ready with any)")
    static void bestOfNone() {
        due("without bags", Halls.with(3).bestChute(0, 60), 0);
        due("with a big one", bigOnes().bestChute(0, 60), 0);
        due("too early for any", Halls.lined(1).bestChute(0, 4), 0);
    }

    private static BagCarousel bigOnes() {
        BagCarousel hall = Halls.with(3);
        hall.checkIn(0, 9, 0);
        return hall;
    }

    @Sentence("Promise 39: of several the smallest number (as many are ready with each)")
    static void bestOfAll() {
        due("one in line", Halls.lined(1).bestChute(0, 60), 0);
    }

    @Sentence("Promise 39: of several the smallest number (two are better than the first)")
    static void bestOfTwo() {
        BagCarousel hall = Halls.with(1);
        Halls.bring(hall, 0);
        hall.giveChute(0, 3);
        Halls.bring(hall, 0);
        due("one in 1 and one in 3", hall.bestChute(0, 60), 1);
        Halls.bring(hall, 0);
        due("one in 1 and two in 3", hall.bestChute(0, 60), 3);
    }

    @Sentence("Promise 39: the chute that it had best have (room decides)")
    static void bestHasRoom() {
        BagCarousel hall = Halls.lined(21);
        for (int chute = 0; chute < 3; chute++) {
            hall.setRoom(chute, 19);
        }
        hall.setRoom(3, 20);
        due("with room for 20 in the last", hall.bestChute(0, 60), 3);
        hall.setRoom(1, 20);
        due("with room for 20 in another", hall.bestChute(0, 60), 1);
    }

    @Sentence("Promise 39: that it had best have from now on (a bag that has been read stays so)")
    static void bestFromNowOn() {
        BagCarousel hall = Halls.with(2);
        hall.checkIn(0, 1, 0);
        hall.pass(2);
        due("before it is read", hall.bestChute(0, 60), 0);
        hall.pass(1);
        due("when it is read", hall.bestChute(0, 60), 2);
    }

    @Sentence("Promise 39: behind them (the shortest time)")
    static void bestBehindOne() {
        BagCarousel hall = Halls.with(1);
        hall.checkIn(0, 1, 0);
        hall.pass(5);
        due("two minutes before the chute", hall.bestChute(0, 1), 0);
        hall.pass(1);
        due("a minute before the chute", hall.bestChute(0, 1), 1);
    }

    @Sentence("Promise 39: behind them (the longest time)")
    static void bestBehindSixty() {
        // One bag is in the chute 3; behind 60 minutes, and no sooner, another could be in the chute 0.
        BagCarousel hall = Halls.with(3, -1, 1);
        Halls.bring(hall, 0);
        hall.setRoom(1, 20);
        Halls.checkIn(hall, 1, 12, 0);
        Halls.checkIn(hall, 2, 19, 0);
        hall.checkIn(0, 1, 0);
        due("bestChute(0, 59)", hall.bestChute(0, 59), 3);
        due("bestChute(0, 60)", hall.bestChute(0, 60), 0);
    }

    @Sentence("Promise 39: the chute that it had best have (one without a chute)")
    static void bestWithoutAChute() {
        BagCarousel hall = Halls.lined(2);
        hall.setRoom(0, 1);
        due("bestChute", hall.bestChute(0, 60), 1);
        due("chuteOfFlight behind it", hall.chuteOfFlight(0), -1);
    }

    @Sentence("Promise 39: (nothing is changed)")
    static void askingForTheBestChangesNothing() {
        Check.changesNothing(Halls::busy, "bestChute, 1", hall -> hall.bestChute(Halls.FLIGHT, 1));
        Check.changesNothing(Halls::busy, "bestChute, 60", hall -> hall.bestChute(Halls.FLIGHT, 60));
        Check.changesNothing(Halls::busy, "without a chute", hall -> hall.bestChute(Halls.CHUTELESS_FLIGHT, 60));
        Check.changesNothing(() -> Halls.lined(40), "with 40 bags", hall -> hall.bestChute(0, 60));
    }

    @Sentence("Promise 39: Throws IndexOutOfBoundsException if there is no such flight")
    static void bestOfNoFlight() {
        Check.refused(BagCarousel::new, "of none", Check.NO_SUCH, hall -> hall.bestChute(0, 1));
        for (int flight : new int[] {-1, 3, 6}) {
            Check.refused(Halls::busy, "of " + flight, Check.NO_SUCH, hall -> hall.bestChute(flight, 1));
        }
        for (int flight : Check.FAR_OFF) {
            Check.refused(Halls::busy, "of " + flight, Check.NO_SUCH, hall -> hall.bestChute(flight, 1));
        }
    }

    @Sentence("Promise 39: Throws IllegalArgumentException if minutes is not 1 to 60")
    static void bestNoSuchMinutes() {
        due("bestChute, 1", Halls.busy().bestChute(Halls.FLIGHT, 1), 1);
        due("bestChute, 60", Halls.busy().bestChute(Halls.FLIGHT, 60), 1);
        for (int minutes : new int[] {0, -1, 61}) {
            Check.refused(Halls::busy, "behind " + minutes, Check.WRONG, hall -> hall.bestChute(1, minutes));
        }
        for (int minutes : Check.FAR_OFF) {
            Check.refused(Halls::busy, "behind " + minutes, Check.WRONG, hall -> hall.bestChute(1, minutes));
        }
    }

    @Sentence("Promise 39: Throws IllegalStateException if the flight is gone")
    static void bestOfAGoneFlight() {
        Check.refused(Halls::late, "1 minute", Check.NOT_NOW, hall -> hall.bestChute(Halls.GONE_FLIGHT, 1));
        Check.refused(Halls::late, "60 minutes", Check.NOT_NOW, hall -> hall.bestChute(Halls.GONE_FLIGHT, 60));
    }

    // ---- promise 40

    @Sentence("Promise 40: 0 without any.")
    static void meanWithoutBags() {
        due("meanMisses() of a new hall", new BagCarousel().meanMisses(), 0.0);
        due("meanMisses() of a hall with flights", Halls.with(0, 1).meanMisses(), 0.0);
    }

    @Sentence("Promise 40: Returns the mean of how many times bags were missed (none was)")
    static void meanOfNoMisses() {
        due("meanMisses() of one", Halls.lined(1).meanMisses(), 0.0);
        due("meanMisses() of 40", Halls.lined(40).meanMisses(), 0.0);
    }

    @Sentence("Promise 40: Returns the mean of how many times bags were missed (of one bag)")
    static void meanOfOneBag() {
        BagCarousel hall = Halls.lined(1);
        hall.pass(3);
        due("meanMisses() behind one miss", hall.meanMisses(), 1.0);
        hall.pass(24);
        due("meanMisses() behind three", hall.meanMisses(), 3.0);
    }

    @Sentence("Promise 40: Returns the mean of how many times bags were missed (the least: one of 40, once)")
    static void meanOfOneMiss() {
        BagCarousel hall = Halls.lined(40);
        hall.pass(3);
        due("meanMisses()", hall.meanMisses(), 1.0 / 40);
    }

    @Sentence("Promise 40: Returns the mean of how many times bags were missed (the most: all, three times)")
    static void meanOfThreeMisses() {
        BagCarousel hall = Halls.lined(40);
        hall.pass(60);
        hall.pass(60);
        hall.pass(17);
        due("meanMisses() before the last", hall.meanMisses(), 119.0 / 40);
        hall.pass(1);
        due("meanMisses()", hall.meanMisses(), 3.0);
    }

    @Sentence("Promise 40: Returns the mean of how many times bags were missed (wherever they are, loaded ones as well)")
    static void meanOfAllBags() {
        BagCarousel hall = Halls.with(0);
        hall.checkIn(0, 1, 9);
        hall.pass(3);
        hall.setReader(9);
        hall.pass(14);
        hall.checkIn(0, 8, 0);
        hall.checkIn(0, 1, 0);
        due("whereIs the missed one", hall.whereIs(0), Halls.CHUTE);
        due("meanMisses()", hall.meanMisses(), 1.0 / 3);
        hall.depart(0);
        due("whereIs the missed one then", hall.whereIs(0), Halls.LOADED);
        due("meanMisses() with a loaded one", hall.meanMisses(), 1.0 / 3);
    }

    // ---- promise 41

    @Sentence("Promise 41: A number d starts with 1867; for each of the following numbers (a hall of none)")
    static void digestOfANewHall() {
        BagCarousel hall = new BagCarousel();
        due("digest()", hall.digest(), unwrapped(hall).longValue());
    }

    @Sentence("Promise 41: which wraps around as a 64-bit integer")
    static void digestWrapsAround() {
        BagCarousel hall = new BagCarousel();
        due("d is too great for 64 bits", unwrapped(hall).bitLength() > 64, true);
        due("digest()", hall.digest(), unwrapped(hall).longValue());
        boolean negative = false;
        for (int minute = 0; minute < 15; minute++) {
            hall.pass(1);
            long digest = hall.digest();
            negative = negative || digest < 0;
            due("digest() at " + hall.minute(), digest, unwrapped(hall).longValue());
        }
        due("some are less than 0", negative, true);
    }

    @Sentence("Promise 41: (whether something is so counts 1 or 0) .. (all by their numbers): bags everywhere")
    static void digestOfBagsEverywhere() {
        due("digest() of a busy hall", Halls.busy().digest(), unwrapped(Halls.busy()).longValue());
        due("digest() of a late hall", Halls.late().digest(), unwrapped(Halls.late()).longValue());
    }

    @Sentence("Promise 41: for each bag, for each chute, for each flight (as many as there can be)")
    static void digestOfAFullHall() {
        due("digest()", fullHall().digest(), unwrapped(fullHall()).longValue());
    }

    /** Forty bags of six flights, of which the first and the last are gone. */
    private static BagCarousel fullHall() {
        BagCarousel hall = Halls.with(0, 1, 2, 3, -1, 0);
        for (int bag = 0; bag < 40; bag++) {
            hall.checkIn(bag % 6, 1 + bag % 9, bag % 10);
        }
        hall.pass(40);
        hall.depart(0);
        hall.giveChute(1, 3);
        hall.depart(5);
        return hall;
    }

    /** The checksum as the document tells it, from what the hall's other calls answer, without an end to its size. */
    private static BigInteger unwrapped(BagCarousel hall) {
        List<Integer> numbers = new ArrayList<>();
        add(numbers, hall.minute(), hall.flights(), hall.bags(), hall.inLine(), hall.onBelt(), hall.atDesk());
        add(numbers, hall.openFiles(), hall.closedFiles(), hall.reader());
        int bags = hall.bags();
        for (int bag = 0; bag < bags; bag++) {
            add(numbers, hall.flightOf(bag), hall.whereIs(bag), hall.placeOf(bag), hall.chuteOf(bag));
            add(numbers, hall.readFor(bag), hall.missesOf(bag));
            add(numbers, hall.isMisrouted(bag) ? 1 : 0, hall.hasOpenFile(bag) ? 1 : 0);
        }
        for (int chute = 0; chute < 4; chute++) {
            add(numbers, hall.bagsIn(chute), hall.misroutedIn(chute), hall.roomOf(chute));
        }
        int flights = hall.flights();
        for (int flight = 0; flight < flights; flight++) {
            add(numbers, hall.chuteOfFlight(flight), hall.isGone(flight) ? 1 : 0);
            add(numbers, hall.readyOf(flight), hall.missingOf(flight));
        }
        BigInteger d = BigInteger.valueOf(1867);
        for (int number : numbers) {
            d = d.multiply(BigInteger.valueOf(31)).add(BigInteger.valueOf(number));
        }
        return d;
    }

    private static void add(List<Integer> numbers, int... more) {
        for (int number : more) {
            numbers.add(number);
        }
    }
}
