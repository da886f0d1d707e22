/** The promises 1 to 5: a new object, and the calls that set up the hall. */
public final class EdgesOfHallTest {
    private static final int[] NO_CHUTES = {-1, 4};

    public static void main(String[] args) throws IllegalAccessException {
        Check.sentences(EdgesOfHallTest.class);
    }

    private static void due(String call, Object got, Object want) {
        Check.due(call, got, want);
    }

    private static BagCarousel sixFlights() {
        return Halls.with(0, 1, 2, 3, -1, -1);
    }

    // ---- promise 1

    @Sentence("Promise 1: Creates a hall without flights")
    static void newWithoutFlights() {
        due("flights()", new BagCarousel().flights(), 0);
        Check.refused(BagCarousel::new, "isGone(0)", Check.NO_SUCH, hall -> hall.isGone(0));
        Check.refused(BagCarousel::new, "checkIn(0, 1, 0)", Check.NO_SUCH, hall -> hall.checkIn(0, 1, 0));
    }

    @Sentence("Promise 1: and bags")
    static void newWithoutBags() {
        BagCarousel hall = new BagCarousel();
        due("bags()", hall.bags(), 0);
        due("inLine()", hall.inLine(), 0);
        due("onBelt()", hall.onBelt(), 0);
        due("atDesk()", hall.atDesk(), 0);
        due("openFiles()", hall.openFiles(), 0);
        due("closedFiles()", hall.closedFiles(), 0);
        for (int place = 0; place < 12; place++) {
            due("bagAt " + place, hall.bagAt(place), -1);
        }
        Check.refused(BagCarousel::new, "whereIs(0)", Check.NO_SUCH, empty -> empty.whereIs(0));
    }

    @Sentence("Promise 1: at the minute 0.")
    static void newAtMinuteNought() {
        due("minute()", new BagCarousel().minute(), 0);
    }

    @Sentence("Promise 1: Creates a hall (one that shares nothing with another)")
    static void newHallsAreApart() {
        BagCarousel hall = new BagCarousel();
        BagCarousel other = Halls.busy();
        other.setReader(9);
        other.setRoom(0, 20);
        due("the digest of a new hall beside a busy one", hall.digest(), new BagCarousel().digest());
        other.bestChute(Halls.FLIGHT, 60);
        due("addFlight()", hall.addFlight(), 0);
        due("chuteOfFlight(0)", hall.chuteOfFlight(0), -1);
        due("readyAfter(0, 60)", hall.readyAfter(0, 60), 0);
    }

    // ---- promise 2

    @Sentence("Promise 2: Returns the number of a new flight.")
    static void numbersOfFlights() {
        BagCarousel hall = new BagCarousel();
        due("the first", hall.addFlight(), 0);
        hall.depart(0);
        for (int flight = 1; flight < 6; flight++) {
            due("the next, behind a gone one", hall.addFlight(), flight);
        }
    }

    @Sentence("Promise 2: Throws IllegalStateException if there are 6")
    static void noSeventhFlight() {
        due("the 6th", Halls.with(0, 1, 2, 3, -1).addFlight(), 5);
        Check.refused(EdgesOfHallTest::sixFlights, "the 7th", Check.NOT_NOW, BagCarousel::addFlight);
    }

    @Sentence("Promise 2: Throws IllegalStateException if there are 6 (gone ones are there as well)")
    static void noSeventhFlightBehindGoneOnes() {
        Check.refused(EdgesOfHallTest::sixGone, "the 7th", Check.NOT_NOW, BagCarousel::addFlight);
    }

    private static BagCarousel sixGone() {
        BagCarousel hall = sixFlights();
        for (int flight = 0; flight < 6; flight++) {
            hall.depart(flight);
        }
        return hall;
    }

    // ---- promise 3

    @Sentence("Promise 3: Gives a flight a chute (the first and the last of both)")
    static void giveFirstAndLast() {
        BagCarousel hall = sixFlights();
        hall.giveChute(0, 3);
        due("chuteOfFlight(0)", hall.chuteOfFlight(0), 3);
        hall.giveChute(5, 0);
        due("chuteOfFlight(5)", hall.chuteOfFlight(5), 0);
        due("chuteOfFlight(4)", hall.chuteOfFlight(4), -1);
    }

    @Sentence("Promise 3: what has been read stays so.")
    static void readStaysBehindGiveChute() {
        BagCarousel hall = Halls.with(0);
        int bag = hall.checkIn(0, 1, 0);
        hall.pass(3);
        hall.giveChute(0, 3);
        due("readFor", hall.readFor(bag), 0);
        due("pass(2)", hall.pass(2), 1);
        due("chuteOf", hall.chuteOf(bag), 0);
    }

    @Sentence("Promise 3: its chute from now on (for a bag just before the reader)")
    static void newChuteBeforeTheReader() {
        BagCarousel hall = Halls.with(0);
        int bag = hall.checkIn(0, 1, 0);
        hall.pass(2);
        hall.giveChute(0, 3);
        hall.pass(1);
        due("readFor", hall.readFor(bag), 3);
    }

    @Sentence("Promise 3: Returns how many bags are misrouted by it (none)")
    static void givesNoneMisrouted() {
        due("without bags", Halls.with(0).giveChute(0, 1), 0);
        due("to the same chute", Halls.filled(1, 20).giveChute(0, 1), 0);
        due("to a first chute", Halls.with(-1).giveChute(0, 1), 0);
    }

    @Sentence("Promise 3: Returns how many bags are misrouted by it (as many as there can be)")
    static void givesTwentyMisrouted() {
        BagCarousel hall = Halls.filled(0, 20);
        due("giveChute", hall.giveChute(0, 3), 20);
        due("misroutedIn", hall.misroutedIn(0), 20);
    }

    @Sentence("Promise 3: that were not.")
    static void misroutedBeforeIsNotCounted() {
        BagCarousel hall = Halls.filled(0, 2);
        due("giveChute away", hall.giveChute(0, 1), 2);
        due("giveChute away again", hall.giveChute(0, 2), 0);
        due("giveChute back", hall.giveChute(0, 0), 0);
        due("misroutedIn", hall.misroutedIn(0), 0);
    }

    @Sentence("Promise 3: how many bags are misrouted by it (those that it puts right are not set off)")
    static void putRightIsNotSetOff() {
        BagCarousel hall = Halls.filled(0, 3);
        hall.giveChute(0, 1);
        Halls.fill(hall, 0, 1);
        due("giveChute", hall.giveChute(0, 0), 1);
        due("misroutedIn(0)", hall.misroutedIn(0), 0);
        due("misroutedIn(1)", hall.misroutedIn(1), 1);
    }

    @Sentence("Promise 3: how many bags are misrouted by it (bags of other flights and bags elsewhere are not)")
    static void othersAreNotMisrouted() {
        BagCarousel hall = Halls.busy();
        due("giveChute to a flight without a chute", hall.giveChute(Halls.CHUTELESS_FLIGHT, 1), 0);
        due("giveChute with bags everywhere", hall.giveChute(Halls.FLIGHT, 2), 1);
    }

    @Sentence("Promise 3: Throws IndexOutOfBoundsException if there is no such flight")
    static void giveChuteToNoFlight() {
        due("giveChute to the last", Halls.busy().giveChute(2, 0), 0);
        for (int flight : new int[] {-1, 3, 6}) {
            Check.refused(Halls::busy, "giveChute to " + flight, Check.NO_SUCH, hall -> hall.giveChute(flight, 0));
        }
        for (int flight : Check.FAR_OFF) {
            Check.refused(Halls::busy, "giveChute to " + flight, Check.NO_SUCH, hall -> hall.giveChute(flight, 0));
        }
    }

    @Sentence("Promise 3: Throws IndexOutOfBoundsException if there is no such chute")
    static void giveNoChute() {
        for (int chute : NO_CHUTES) {
            Check.refused(Halls::busy, "giveChute " + chute, Check.NO_SUCH, hall -> hall.giveChute(1, chute));
        }
        for (int chute : Check.FAR_OFF) {
            Check.refused(Halls::busy, "giveChute " + chute, Check.NO_SUCH, hall -> hall.giveChute(1, chute));
        }
    }

    @Sentence("Promise 3: Throws IllegalStateException if the flight is gone")
    static void giveChuteToAGoneFlight() {
        Check.refused(Halls::late, "another chute", Check.NOT_NOW, hall -> hall.giveChute(Halls.GONE_FLIGHT, 3));
        Check.refused(Halls::late, "its own chute", Check.NOT_NOW, hall -> hall.giveChute(Halls.GONE_FLIGHT, 0));
    }

    // ---- promise 4

    @Sentence("Promise 4: the reader's strength from now on (for a bag just before the reader)")
    static void newStrengthBeforeTheReader() {
        BagCarousel hall = Halls.with(0);
        int weaker = hall.checkIn(0, 1, 5);
        int stronger = hall.checkIn(0, 1, 6);
        hall.pass(2);
        hall.setReader(4);
        hall.pass(1);
        due("missesOf with a weaker reader", hall.missesOf(weaker), 1);
        hall.setReader(6);
        hall.pass(1);
        due("readFor with a stronger reader", hall.readFor(stronger), 0);
        due("missesOf of the one behind the reader", hall.missesOf(weaker), 1);
        due("readFor of the one behind the reader", hall.readFor(weaker), -1);
    }

    @Sentence("Promise 4: Returns the one before.")
    static void strengthBefore() {
        BagCarousel hall = new BagCarousel();
        due("setReader(0)", hall.setReader(0), 5);
        due("setReader(9)", hall.setReader(9), 0);
        due("setReader(9) again", hall.setReader(9), 9);
        due("setReader(5)", hall.setReader(5), 9);
        due("reader()", hall.reader(), 5);
    }

    @Sentence("Promise 4: Throws IllegalArgumentException if strength is not 0 to 9")
    static void noSuchStrength() {
        due("setReader(0)", Halls.busy().setReader(0), 5);
        due("setReader(9)", Halls.busy().setReader(9), 5);
        Check.refused(Halls::busy, "setReader(-1)", Check.WRONG, hall -> hall.setReader(-1));
        Check.refused(Halls::busy, "setReader(10)", Check.WRONG, hall -> hall.setReader(10));
        for (int strength : Check.FAR_OFF) {
            Check.refused(Halls::busy, "setReader " + strength, Check.WRONG, hall -> hall.setReader(strength));
        }
    }

    // ---- promise 5

    @Sentence("Promise 5: how much room it has from now on (less than there is in it, as much, and one more)")
    static void newRoomBesideItsBags() {
        BagCarousel hall = Halls.filled(0, 3);
        hall.checkIn(0, 1, 0);
        hall.setRoom(0, 2);
        due("pass(12) with less room", hall.pass(12), 0);
        hall.setRoom(0, 3);
        due("pass(12) with as much room", hall.pass(12), 0);
        hall.setRoom(0, 4);
        due("pass(12) with room for one more", hall.pass(12), 1);
    }

    @Sentence("Promise 5: bags that are in it stay")
    static void bagsStayInLessRoom() {
        BagCarousel hall = Halls.filled(0, 20);
        due("setRoom to the least", hall.setRoom(0, 1), 20);
        due("bagsIn", hall.bagsIn(0), 20);
        due("misroutedIn", hall.misroutedIn(0), 0);
        hall.pass(60);
        due("bagsIn an hour later", hall.bagsIn(0), 20);
    }

    @Sentence("Promise 5: Returns how much it had.")
    static void roomBefore() {
        BagCarousel hall = new BagCarousel();
        due("setRoom(0, 1)", hall.setRoom(0, 1), 5);
        due("setRoom(3, 20)", hall.setRoom(3, 20), 5);
        due("setRoom(0, 20)", hall.setRoom(0, 20), 1);
        due("setRoom(3, 1)", hall.setRoom(3, 1), 20);
        due("setRoom(1, 5)", hall.setRoom(1, 5), 5);
        due("roomOf(0)", hall.roomOf(0), 20);
        due("roomOf(2)", hall.roomOf(2), 5);
    }

    @Sentence("Promise 5: Throws IndexOutOfBoundsException if there is no such chute")
    static void setRoomOfNoChute() {
        for (int chute : NO_CHUTES) {
            Check.refused(Halls::busy, "setRoom of " + chute, Check.NO_SUCH, hall -> hall.setRoom(chute, 7));
        }
        for (int chute : Check.FAR_OFF) {
            Check.refused(Halls::busy, "setRoom of " + chute, Check.NO_SUCH, hall -> hall.setRoom(chute, 7));
        }
    }

    @Sentence("Promise 5: Throws IllegalArgumentException if room is not 1 to 20")
    static void noSuchRoom() {
        due("setRoom(1, 1)", Halls.busy().setRoom(1, 1), 5);
        due("setRoom(1, 20)", Halls.busy().setRoom(1, 20), 5);
        Check.refused(Halls::busy, "setRoom(1, 0)", Check.WRONG, hall -> hall.setRoom(1, 0));
        Check.refused(Halls::busy, "setRoom(1, -1)", Check.WRONG, hall -> hall.setRoom(1, -1));
        Check.refused(Halls::busy, "setRoom(1, 21)", Check.WRONG, hall -> hall.setRoom(1, 21));
        for (int room : Check.FAR_OFF) {
            Check.refused(Halls::busy, "setRoom " + room, Check.WRONG, hall -> hall.setRoom(1, room));
        }
    }
}
