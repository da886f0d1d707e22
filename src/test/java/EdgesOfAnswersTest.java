import java.util.function.ObjIntConsumer;

/** The promises 12 to 36: the calls that tell what there is. */
public final class EdgesOfAnswersTest {
    public static void main(String[] args) throws IllegalAccessException {
        Check.sentences(EdgesOfAnswersTest.class);
    }

    private static void due(String call, Object got, Object want) {
        Check.due(call, got, want);
    }

    private static void noSuchBag(String name, ObjIntConsumer<BagCarousel> ask) {
        Check.refused(BagCarousel::new, name + "(0) of none", Check.NO_SUCH, hall -> ask.accept(hall, 0));
        Check.refused(() -> Halls.lined(40), name + "(40) of 40", Check.NO_SUCH, hall -> ask.accept(hall, 40));
        refusedByBusy(name, ask, -1, 6, 40);
        refusedByBusy(name, ask, Check.FAR_OFF);
    }

    private static void noSuchFlight(String name, ObjIntConsumer<BagCarousel> ask) {
        Check.refused(BagCarousel::new, name + "(0) of none", Check.NO_SUCH, hall -> ask.accept(hall, 0));
        Check.refused(EdgesOfAnswersTest::sixFlights, name + "(6) of 6", Check.NO_SUCH, hall -> ask.accept(hall, 6));
        refusedByBusy(name, ask, -1, 3, 6);
        refusedByBusy(name, ask, Check.FAR_OFF);
    }

    private static void noSuchChute(String name, ObjIntConsumer<BagCarousel> ask) {
        refusedByBusy(name, ask, -1, 4);
        refusedByBusy(name, ask, Check.FAR_OFF);
    }

    private static void refusedByBusy(String name, ObjIntConsumer<BagCarousel> ask, int... numbers) {
        for (int number : numbers) {
            Check.refused(Halls::busy, name + "(" + number + ")", Check.NO_SUCH, hall -> ask.accept(hall, number));
        }
    }

    private static BagCarousel sixFlights() {
        return Halls.with(0, 1, 2, 3, -1, 3);
    }

    /** Forty bags that were missed three times. */
    private static BagCarousel fortyAtDesk() {
        BagCarousel hall = Halls.lined(40);
        hall.pass(60);
        hall.pass(60);
        hall.pass(60);
        return hall;
    }

    /** Forty bags of a gone flight that were forwarded. */
    private static BagCarousel fortyForwarded() {
        BagCarousel hall = Halls.with(0, 1);
        for (int bag = 0; bag < 40; bag++) {
            hall.checkIn(0, 8, 0);
        }
        hall.depart(0);
        for (int bag = 0; bag < 40; bag++) {
            hall.forward(bag, 1);
        }
        return hall;
    }

    // ---- promises 12 to 19: bags

    @Sentence("Promise 12: Returns its flight (the first and the last, of the first bag and the last)")
    static void flightOfFirstAndLast() {
        BagCarousel hall = sixFlights();
        hall.checkIn(5, 1, 0);
        Halls.checkIn(hall, 2, 38, 0);
        hall.checkIn(0, 1, 0);
        due("flightOf(0)", hall.flightOf(0), 5);
        due("flightOf(38)", hall.flightOf(38), 2);
        due("flightOf(39)", hall.flightOf(39), 0);
    }

    @Sentence("Promise 12: Throws IndexOutOfBoundsException if there is no such bag")
    static void flightOfNoBag() {
        noSuchBag("flightOf", (hall, bag) -> hall.flightOf(bag));
    }

    @Sentence("Promise 13: Returns 0 if it is in line")
    static void whereIsInLine() {
        BagCarousel hall = Halls.lined(40);
        due("whereIs the first", hall.whereIs(0), 0);
        due("whereIs the last", hall.whereIs(39), 0);
    }

    @Sentence("Promise 13: 1 on the belt (at its first place, its last, and round again)")
    static void whereIsOnTheBelt() {
        BagCarousel hall = Halls.lined(1);
        for (int minute = 1; minute < 27; minute++) {
            hall.pass(1);
            due("whereIs behind " + minute, hall.whereIs(0), 1);
        }
    }

    @Sentence("Promise 13: 2 in a chute (its own, another, one behind its flight)")
    static void whereIsInAChute() {
        BagCarousel hall = Halls.filled(0, 1);
        due("whereIs in its own", hall.whereIs(0), 2);
        hall.giveChute(0, 1);
        due("whereIs in another", hall.whereIs(0), 2);
        due("whereIs behind its flight", Halls.late().whereIs(Halls.CHUTE_BAG), 2);
    }

    @Sentence("Promise 13: 3 at the desk (missed, and swept)")
    static void whereIsAtTheDesk() {
        due("whereIs a missed one", Halls.busy().whereIs(Halls.DESK_BAG), 3);
        BagCarousel hall = Halls.late();
        hall.sweep(0);
        due("whereIs a swept one", hall.whereIs(Halls.CHUTE_BAG), 3);
    }

    @Sentence("Promise 13: 4 in the room for big ones")
    static void whereIsInTheRoomForBigOnes() {
        due("whereIs", Halls.busy().whereIs(Halls.BIG_BAG), 4);
    }

    @Sentence("Promise 13: 5 loaded")
    static void whereIsLoaded() {
        due("whereIs", Halls.busy().whereIs(Halls.LOADED_BAG), 5);
    }

    @Sentence("Promise 13: Throws IndexOutOfBoundsException if there is no such bag")
    static void whereIsNoBag() {
        noSuchBag("whereIs", (hall, bag) -> hall.whereIs(bag));
    }

    @Sentence("Promise 14: Returns its place on the belt (the first and the last)")
    static void placeOfFirstAndLast() {
        BagCarousel hall = Halls.lined(12);
        hall.pass(12);
        due("placeOf(11)", hall.placeOf(11), 0);
        due("placeOf(0)", hall.placeOf(0), 11);
    }

    @Sentence("Promise 14: -1 if it is not there.")
    static void placeOfOthers() {
        BagCarousel hall = Halls.busy();
        for (int bag = 0; bag < 6; bag++) {
            due("placeOf " + bag, hall.placeOf(bag), bag == Halls.BELT_BAG ? 0 : -1);
        }
    }

    @Sentence("Promise 14: Throws IndexOutOfBoundsException if there is no such bag")
    static void placeOfNoBag() {
        noSuchBag("placeOf", (hall, bag) -> hall.placeOf(bag));
    }

    @Sentence("Promise 15: Returns the chute in which it is (the first and the last)")
    static void chuteOfFirstAndLast() {
        due("chuteOf in the first", Halls.filled(0, 1).chuteOf(0), 0);
        due("chuteOf in the last", Halls.filled(3, 1).chuteOf(0), 3);
        BagCarousel hall = Halls.filled(3, 1);
        hall.giveChute(0, 0);
        due("chuteOf in one that is not its flight's", hall.chuteOf(0), 3);
    }

    @Sentence("Promise 15: -1 if it is in none.")
    static void chuteOfOthers() {
        BagCarousel hall = Halls.busy();
        for (int bag = 0; bag < 6; bag++) {
            due("chuteOf " + bag, hall.chuteOf(bag), bag == Halls.CHUTE_BAG ? 1 : -1);
        }
    }

    @Sentence("Promise 15: -1 if it is in none (at the place of a full chute)")
    static void chuteOfAtAFullChute() {
        BagCarousel hall = Halls.filled(0, 20);
        int bag = hall.checkIn(0, 1, 0);
        hall.pass(5);
        due("placeOf", hall.placeOf(bag), 4);
        due("chuteOf", hall.chuteOf(bag), -1);
    }

    @Sentence("Promise 15: Throws IndexOutOfBoundsException if there is no such bag")
    static void chuteOfNoBag() {
        noSuchBag("chuteOf", (hall, bag) -> hall.chuteOf(bag));
    }

    @Sentence("Promise 16: Returns the chute for which it has been read (the first and the last)")
    static void readForFirstAndLast() {
        due("readFor the first", Halls.filled(0, 1).readFor(0), 0);
        due("readFor the last", Halls.filled(3, 1).readFor(0), 3);
    }

    @Sentence("Promise 16: -1 if it has not.")
    static void readForUnread() {
        BagCarousel hall = Halls.busy();
        due("readFor at the desk", hall.readFor(Halls.DESK_BAG), -1);
        due("readFor in the room for big ones", hall.readFor(Halls.BIG_BAG), -1);
        due("readFor on the belt", hall.readFor(Halls.BELT_BAG), -1);
        due("readFor in line", hall.readFor(Halls.LINE_BAG), -1);
        due("readFor in its chute", hall.readFor(Halls.CHUTE_BAG), 1);
        due("readFor loaded", hall.readFor(Halls.LOADED_BAG), 0);
    }

    @Sentence("Promise 16: Throws IndexOutOfBoundsException if there is no such bag")
    static void readForNoBag() {
        noSuchBag("readFor", (hall, bag) -> hall.readFor(bag));
    }

    @Sentence("Promise 17: Returns how many times the reader missed it (never)")
    static void missesOfNever() {
        BagCarousel hall = Halls.busy();
        for (int bag = 0; bag < 6; bag++) {
            due("missesOf " + bag, hall.missesOf(bag), bag == Halls.DESK_BAG ? 3 : 0);
        }
    }

    @Sentence("Promise 17: Returns how many times the reader missed it (as many as there can be)")
    static void missesOfThree() {
        BagCarousel hall = fortyAtDesk();
        due("missesOf the first", hall.missesOf(0), 3);
        due("missesOf the last", hall.missesOf(39), 3);
        hall.pass(60);
        due("missesOf an hour later", hall.missesOf(0), 3);
    }

    @Sentence("Promise 17: Throws IndexOutOfBoundsException if there is no such bag")
    static void missesOfNoBag() {
        noSuchBag("missesOf", (hall, bag) -> hall.missesOf(bag));
    }

    @Sentence("Promise 18: Returns whether it is misrouted (the first bag and the last)")
    static void isMisroutedFirstAndLast() {
        BagCarousel hall = Halls.with(0, 1);
        hall.setRoom(0, 20);
        hall.setRoom(1, 20);
        Halls.checkIn(hall, 0, 20, 0);
        Halls.checkIn(hall, 1, 20, 0);
        hall.pass(60);
        due("isMisrouted the first in its chute", hall.isMisrouted(0), false);
        due("isMisrouted the last in its chute", hall.isMisrouted(39), false);
        hall.giveChute(0, 1);
        due("isMisrouted the first in another", hall.isMisrouted(0), true);
        due("isMisrouted the last", hall.isMisrouted(39), false);
        hall.giveChute(1, 0);
        due("isMisrouted the last in another", hall.isMisrouted(39), true);
    }

    @Sentence("Promise 18: Returns whether it is misrouted (a loaded one is not)")
    static void isMisroutedLoaded() {
        due("isMisrouted", Halls.busy().isMisrouted(Halls.LOADED_BAG), false);
    }

    @Sentence("Promise 18: Throws IndexOutOfBoundsException if there is no such bag")
    static void isMisroutedNoBag() {
        noSuchBag("isMisrouted", (hall, bag) -> hall.isMisrouted(bag));
    }

    @Sentence("Promise 19: Returns whether it has an open tracing file (none)")
    static void hasOpenFileNone() {
        BagCarousel hall = Halls.busy();
        for (int bag = 0; bag < 6; bag++) {
            due("hasOpenFile of " + bag, hall.hasOpenFile(bag), false);
        }
    }

    @Sentence("Promise 19: Returns whether it has an open tracing file (open, for the first bag and the last)")
    static void hasOpenFileFirstAndLast() {
        BagCarousel hall = Halls.lined(40);
        hall.depart(0);
        due("hasOpenFile of the first", hall.hasOpenFile(0), true);
        due("hasOpenFile of the last", hall.hasOpenFile(39), true);
    }

    @Sentence("Promise 19: Returns whether it has an open tracing file (a closed one is not)")
    static void hasOpenFileClosed() {
        BagCarousel hall = fortyForwarded();
        due("hasOpenFile of the first", hall.hasOpenFile(0), false);
        due("hasOpenFile of the last", hall.hasOpenFile(39), false);
    }

    @Sentence("Promise 19: Returns whether it has an open tracing file (a closed one of a loaded bag stays closed)")
    static void hasOpenFileLoaded() {
        BagCarousel hall = fortyForwarded();
        hall.carry(0);
        due("depart", hall.depart(1), 1);
        due("hasOpenFile of the loaded one", hall.hasOpenFile(0), false);
        due("hasOpenFile of another", hall.hasOpenFile(1), true);
        due("closedFiles()", hall.closedFiles(), 1);
        due("openFiles()", hall.openFiles(), 39);
    }

    @Sentence("Promise 19: Throws IndexOutOfBoundsException if there is no such bag")
    static void hasOpenFileNoBag() {
        noSuchBag("hasOpenFile", (hall, bag) -> hall.hasOpenFile(bag));
    }

    // ---- promises 20 to 27: places, chutes, flights

    @Sentence("Promise 20: Returns the bag there (at the first place and the last)")
    static void bagAtFirstAndLast() {
        BagCarousel hall = Halls.lined(12);
        hall.pass(12);
        due("bagAt(0)", hall.bagAt(0), 11);
        due("bagAt(11)", hall.bagAt(11), 0);
    }

    @Sentence("Promise 20: -1 for none.")
    static void bagAtNone() {
        BagCarousel hall = Halls.lined(1);
        hall.pass(6);
        for (int place = 0; place < 12; place++) {
            due("bagAt " + place, hall.bagAt(place), place == 5 ? 0 : -1);
        }
    }

    @Sentence("Promise 20: Throws IndexOutOfBoundsException if there is no such place")
    static void bagAtNoPlace() {
        refusedByBusy("bagAt", (hall, place) -> hall.bagAt(place), -1, 12);
        refusedByBusy("bagAt", (hall, place) -> hall.bagAt(place), Check.FAR_OFF);
    }

    @Sentence("Promise 21: Returns how many bags are in it (none)")
    static void bagsInNone() {
        BagCarousel hall = Halls.filled(3, 20);
        hall.depart(0);
        for (int chute = 0; chute < 4; chute++) {
            due("bagsIn " + chute, hall.bagsIn(chute), 0);
        }
    }

    @Sentence("Promise 21: Returns how many bags are in it (as many as there can be, in the first and the last)")
    static void bagsInTwenty() {
        due("bagsIn(0)", Halls.filled(0, 20).bagsIn(0), 20);
        BagCarousel hall = Halls.filled(3, 20);
        due("bagsIn(3)", hall.bagsIn(3), 20);
        due("bagsIn(2)", hall.bagsIn(2), 0);
        hall.giveChute(0, 2);
        due("bagsIn(3) with misrouted ones", hall.bagsIn(3), 20);
    }

    @Sentence("Promise 21: Throws IndexOutOfBoundsException if there is no such chute")
    static void bagsInNoChute() {
        noSuchChute("bagsIn", (hall, chute) -> hall.bagsIn(chute));
    }

    @Sentence("Promise 22: Returns how many bags that are in it are misrouted (none)")
    static void misroutedInNone() {
        due("misroutedIn of an empty one", new BagCarousel().misroutedIn(0), 0);
        due("misroutedIn of a full one", Halls.filled(3, 20).misroutedIn(3), 0);
    }

    @Sentence("Promise 22: Returns how many bags that are in it are misrouted (as many as there can be)")
    static void misroutedInTwenty() {
        BagCarousel hall = Halls.filled(3, 20);
        hall.giveChute(0, 0);
        due("misroutedIn(3)", hall.misroutedIn(3), 20);
        due("misroutedIn(0)", hall.misroutedIn(0), 0);
    }

    @Sentence("Promise 22: Returns how many bags that are in it are misrouted (some, and those of a gone flight)")
    static void misroutedInSome() {
        BagCarousel hall = Halls.late();
        hall.giveChute(Halls.FLIGHT, 0);
        hall.carry(hall.checkIn(Halls.FLIGHT, 8, 0));
        due("bagsIn(0)", hall.bagsIn(0), 2);
        due("misroutedIn(0)", hall.misroutedIn(0), 1);
    }

    @Sentence("Promise 22: Throws IndexOutOfBoundsException if there is no such chute")
    static void misroutedInNoChute() {
        noSuchChute("misroutedIn", (hall, chute) -> hall.misroutedIn(chute));
    }

    @Sentence("Promise 23: Returns how much room it has in all (the least and the most, of the first and the last)")
    static void roomOfFirstAndLast() {
        BagCarousel hall = Halls.filled(0, 20);
        due("roomOf(0) when it is full", hall.roomOf(0), 20);
        hall.setRoom(3, 1);
        due("roomOf(3)", hall.roomOf(3), 1);
        due("roomOf(1)", hall.roomOf(1), 5);
    }

    @Sentence("Promise 23: Throws IndexOutOfBoundsException if there is no such chute")
    static void roomOfNoChute() {
        noSuchChute("roomOf", (hall, chute) -> hall.roomOf(chute));
    }

    @Sentence("Promise 24: Returns its chute (the first and the last)")
    static void chuteOfFlightFirstAndLast() {
        BagCarousel hall = sixFlights();
        due("chuteOfFlight(0)", hall.chuteOfFlight(0), 0);
        due("chuteOfFlight(5)", hall.chuteOfFlight(5), 3);
    }

    @Sentence("Promise 24: -1 without one.")
    static void chuteOfFlightWithout() {
        BagCarousel hall = sixFlights();
        due("chuteOfFlight(4)", hall.chuteOfFlight(4), -1);
        hall.depart(4);
        due("chuteOfFlight(4) when it is gone", hall.chuteOfFlight(4), -1);
    }

    @Sentence("Promise 24: Returns its chute (that of a gone one is told still)")
    static void chuteOfFlightGone() {
        due("chuteOfFlight", Halls.late().chuteOfFlight(Halls.GONE_FLIGHT), 0);
    }

    @Sentence("Promise 24: Throws IndexOutOfBoundsException if there is no such flight")
    static void chuteOfNoFlight() {
        noSuchFlight("chuteOfFlight", (hall, flight) -> hall.chuteOfFlight(flight));
    }

    @Sentence("Promise 25: Returns whether it is gone (the first and the last)")
    static void isGoneFirstAndLast() {
        BagCarousel hall = sixFlights();
        hall.depart(0);
        due("isGone(0)", hall.isGone(0), true);
        due("isGone(5)", hall.isGone(5), false);
        hall.depart(5);
        due("isGone(5) then", hall.isGone(5), true);
        due("isGone(1)", hall.isGone(1), false);
    }

    @Sentence("Promise 25: Throws IndexOutOfBoundsException if there is no such flight")
    static void isGoneOfNoFlight() {
        noSuchFlight("isGone", (hall, flight) -> hall.isGone(flight));
    }

    @Sentence("Promise 26: Returns how many of its bags are (none)")
    static void readyOfNone() {
        BagCarousel hall = Halls.lined(40);
        due("readyOf with 40 in line", hall.readyOf(0), 0);
        due("readyOf without bags", Halls.with(0).readyOf(0), 0);
    }

    @Sentence("Promise 26: loaded, or in its chute (as many as there can be)")
    static void readyOfTwenty() {
        BagCarousel hall = Halls.filled(0, 20);
        due("readyOf in its chute", hall.readyOf(0), 20);
        hall.depart(0);
        due("readyOf loaded", hall.readyOf(0), 20);
    }

    @Sentence("Promise 26: in its chute (not in another)")
    static void readyOfInAnotherChute() {
        BagCarousel hall = Halls.filled(0, 20);
        hall.giveChute(0, 1);
        due("readyOf", hall.readyOf(0), 0);
    }

    @Sentence("Promise 26: or in its chute, if it is not gone.")
    static void readyOfBehindItsFlight() {
        BagCarousel hall = Halls.late();
        due("bagsIn its chute", hall.bagsIn(0), 1);
        due("readyOf", hall.readyOf(Halls.GONE_FLIGHT), 1);
        due("whereIs the one that is ready", hall.whereIs(Halls.LOADED_BAG), Halls.LOADED);
    }

    @Sentence("Promise 26: of its bags (not of another flight's in the same chute)")
    static void readyOfOthers() {
        BagCarousel hall = Halls.with(0, 0);
        Halls.fill(hall, 1, 5);
        due("readyOf", hall.readyOf(0), 0);
        due("readyOf the other", hall.readyOf(1), 5);
    }

    @Sentence("Promise 26: Throws IndexOutOfBoundsException if there is no such flight")
    static void readyOfNoFlight() {
        noSuchFlight("readyOf", (hall, flight) -> hall.readyOf(flight));
    }

    @Sentence("Promise 27: Returns how many of its bags are neither (none)")
    static void missingOfNone() {
        due("missingOf without bags", Halls.with(0).missingOf(0), 0);
        BagCarousel hall = Halls.filled(0, 20);
        due("missingOf with all in its chute", hall.missingOf(0), 0);
        hall.depart(0);
        due("missingOf with all loaded", hall.missingOf(0), 0);
    }

    @Sentence("Promise 27: Returns how many of its bags are neither (as many as there can be)")
    static void missingOfForty() {
        due("missingOf with 40 in line", Halls.lined(40).missingOf(0), 40);
        due("missingOf with 40 at the desk", fortyAtDesk().missingOf(0), 40);
        BagCarousel hall = fortyForwarded();
        due("missingOf with 40 forwarded away", hall.missingOf(0), 0);
        due("missingOf with 40 forwarded", hall.missingOf(1), 40);
    }

    @Sentence("Promise 27: Returns how many of its bags are neither (in its chute behind its flight)")
    static void missingOfBehindItsFlight() {
        due("missingOf", Halls.late().missingOf(Halls.GONE_FLIGHT), 5);
    }

    @Sentence("Promise 27: Throws IndexOutOfBoundsException if there is no such flight")
    static void missingOfNoFlight() {
        noSuchFlight("missingOf", (hall, flight) -> hall.missingOf(flight));
    }

    // ---- promises 28 to 36: the hall

    @Sentence("Promise 28: Returns how many minutes went by (none, and what would be is not gone by)")
    static void minuteNought() {
        BagCarousel hall = Halls.lined(40);
        hall.minutesUntilChute(39);
        hall.readyAfter(0, 60);
        hall.bestChute(0, 60);
        due("minute()", hall.minute(), 0);
    }

    @Sentence("Promise 28: Returns how many minutes went by (as many as calls can let go by)")
    static void minuteMost() {
        BagCarousel hall = new BagCarousel();
        for (int call = 0; call < 511; call++) {
            hall.pass(60);
        }
        due("minute()", hall.minute(), 511 * 60);
    }

    @Sentence("Promise 29: Returns how many flights there are (none)")
    static void flightsNone() {
        due("flights()", new BagCarousel().flights(), 0);
    }

    @Sentence("Promise 29: Returns how many flights there are (as many as there can be, gone ones as well)")
    static void flightsSix() {
        BagCarousel hall = sixFlights();
        due("flights()", hall.flights(), 6);
        hall.depart(5);
        due("flights() with a gone one", hall.flights(), 6);
    }

    @Sentence("Promise 30: Returns how many bags there are (none)")
    static void bagsNone() {
        due("bags()", Halls.with(0).bags(), 0);
    }

    @Sentence("Promise 30: Returns how many bags there are (as many as there can be)")
    static void bagsForty() {
        due("bags()", Halls.lined(40).bags(), 40);
        due("bags() forwarded", fortyForwarded().bags(), 40);
    }

    @Sentence("Promise 30: loaded ones as well.")
    static void bagsLoaded() {
        BagCarousel hall = Halls.filled(0, 20);
        hall.depart(0);
        due("bags()", hall.bags(), 20);
    }

    @Sentence("Promise 31: Returns how many bags are in line (none)")
    static void inLineNone() {
        due("inLine() of a new hall", new BagCarousel().inLine(), 0);
        BagCarousel hall = Halls.lined(12);
        hall.pass(12);
        due("inLine() when all are on the belt", hall.inLine(), 0);
    }

    @Sentence("Promise 31: Returns how many bags are in line (as many as there can be)")
    static void inLineForty() {
        due("inLine()", Halls.lined(40).inLine(), 40);
    }

    @Sentence("Promise 31: Returns how many bags are in line (big ones are not)")
    static void inLineWithoutBigOnes() {
        due("inLine()", fortyForwarded().inLine(), 0);
    }

    @Sentence("Promise 32: Returns how many bags are on the belt (none)")
    static void onBeltNone() {
        due("onBelt() with 40 in line", Halls.lined(40).onBelt(), 0);
        due("onBelt() with 20 in a chute", Halls.filled(0, 20).onBelt(), 0);
    }

    @Sentence("Promise 32: Returns how many bags are on the belt (as many as there can be)")
    static void onBeltTwelve() {
        BagCarousel hall = Halls.lined(40);
        hall.pass(11);
        due("onBelt() behind 11 minutes", hall.onBelt(), 11);
        hall.pass(1);
        due("onBelt() behind 12", hall.onBelt(), 12);
        hall.pass(14);
        due("onBelt() before the first leaves", hall.onBelt(), 12);
    }

    @Sentence("Promise 33: Returns how many bags are at the desk (none)")
    static void atDeskNone() {
        due("atDesk() with big ones", fortyForwarded().atDesk(), 0);
        BagCarousel hall = Halls.busy();
        hall.carry(Halls.DESK_BAG);
        due("atDesk() when the last was carried", hall.atDesk(), 0);
    }

    @Sentence("Promise 33: Returns how many bags are at the desk (as many as there can be)")
    static void atDeskForty() {
        due("atDesk()", fortyAtDesk().atDesk(), 40);
    }

    @Sentence("Promise 34: Returns how many tracing files are open (none)")
    static void openFilesNone() {
        due("openFiles() of none", Halls.lined(40).openFiles(), 0);
        due("openFiles() when all are closed", fortyForwarded().openFiles(), 0);
    }

    @Sentence("Promise 34: Returns how many tracing files are open (as many as there can be)")
    static void openFilesForty() {
        BagCarousel hall = fortyForwarded();
        hall.depart(1);
        due("openFiles()", hall.openFiles(), 40);
        due("closedFiles()", hall.closedFiles(), 0);
    }

    @Sentence("Promise 35: Returns how many tracing files are closed (none)")
    static void closedFilesNone() {
        due("closedFiles() of none", Halls.lined(40).closedFiles(), 0);
        due("closedFiles() when all are open", Halls.late().closedFiles(), 0);
    }

    @Sentence("Promise 35: Returns how many tracing files are closed (as many as there can be)")
    static void closedFilesForty() {
        due("closedFiles()", fortyForwarded().closedFiles(), 40);
    }

    @Sentence("Promise 36: Returns the reader's strength (the least and the most)")
    static void readerLeastAndMost() {
        BagCarousel hall = new BagCarousel();
        hall.setReader(0);
        due("reader()", hall.reader(), 0);
        hall.setReader(9);
        due("reader()", hall.reader(), 9);
    }
}
