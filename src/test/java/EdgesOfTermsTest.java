/** The section "Terms": each sentence that names an edge of the hall, of a bag or of the course of a minute. */
public final class EdgesOfTermsTest {
    public static void main(String[] args) throws IllegalAccessException {
        Check.sentences(EdgesOfTermsTest.class);
    }

    private static void due(String call, Object got, Object want) {
        Check.due(call, got, want);
    }

    // ---- numbers of things

    @Sentence("Terms: Time is told in minutes, from 0.")
    static void timeFromNought() {
        BagCarousel hall = new BagCarousel();
        due("minute() of a new hall", hall.minute(), 0);
        hall.pass(1);
        due("minute() behind one", hall.minute(), 1);
    }

    @Sentence("Terms: It has 12 places, 0 to 11")
    static void twelvePlaces() {
        BagCarousel hall = Halls.lined(1);
        for (int place = 0; place < 12; place++) {
            hall.pass(1);
            due("placeOf behind " + (place + 1), hall.placeOf(0), place);
            due("bagAt " + place, hall.bagAt(place), 0);
        }
        Check.refused(() -> Halls.lined(1), "bagAt(-1)", Check.NO_SUCH, refusing -> refusing.bagAt(-1));
        Check.refused(() -> Halls.lined(1), "bagAt(12)", Check.NO_SUCH, refusing -> refusing.bagAt(12));
    }

    @Sentence("Terms: in a ring")
    static void ring() {
        BagCarousel hall = Halls.lined(1);
        hall.pass(12);
        due("bagAt the last place", hall.bagAt(11), 0);
        due("bagAt the first place", hall.bagAt(0), -1);
        hall.pass(1);
        due("bagAt the last place, a minute later", hall.bagAt(11), -1);
        due("bagAt the first place, a minute later", hall.bagAt(0), 0);
    }

    @Sentence("Terms: each for one bag")
    static void onePlaceOneBag() {
        BagCarousel hall = Halls.lined(13);
        hall.pass(13);
        due("bagAt(0)", hall.bagAt(0), 0);
        for (int bag = 1; bag < 12; bag++) {
            due("bagAt(" + (12 - bag) + ")", hall.bagAt(12 - bag), bag);
        }
        due("onBelt() of a full belt", hall.onBelt(), 12);
        due("whereIs the 13th", hall.whereIs(12), Halls.LINE);
    }

    @Sentence("Terms: The reader stands at the place 2")
    static void readerAtPlaceTwo() {
        BagCarousel hall = Halls.with(3);
        int bag = hall.checkIn(0, 1, 0);
        hall.pass(2);
        due("placeOf before the reader", hall.placeOf(bag), 1);
        due("readFor before the reader", hall.readFor(bag), -1);
        hall.pass(1);
        due("placeOf at the reader", hall.placeOf(bag), 2);
        due("readFor at the reader", hall.readFor(bag), 3);
    }

    @Sentence("Terms: The reader stands at the place 2 (and nowhere else)")
    static void noReaderElsewhere() {
        BagCarousel hall = Halls.with(3);
        int bag = hall.checkIn(0, 1, 9);
        hall.pass(3);
        hall.setReader(9);
        for (int minute = 0; minute < 11; minute++) {
            hall.pass(1);
            due("readFor at " + hall.placeOf(bag), hall.readFor(bag), -1);
            due("missesOf at " + hall.placeOf(bag), hall.missesOf(bag), 1);
        }
        hall.pass(1);
        due("readFor when it comes round", hall.readFor(bag), 3);
    }

    @Sentence("Terms: it has a strength, 0 to 9: the weakest")
    static void weakestReader() {
        BagCarousel hall = Halls.with(0);
        hall.setReader(0);
        due("reader()", hall.reader(), 0);
        int clear = hall.checkIn(0, 1, 0);
        int smudged = hall.checkIn(0, 1, 1);
        hall.pass(4);
        due("readFor with a smudge of 0", hall.readFor(clear), 0);
        due("readFor with a smudge of 1", hall.readFor(smudged), -1);
        due("missesOf with a smudge of 1", hall.missesOf(smudged), 1);
    }

    @Sentence("Terms: it has a strength, 0 to 9: the strongest")
    static void strongestReader() {
        BagCarousel hall = Halls.with(0);
        hall.setReader(9);
        due("reader()", hall.reader(), 9);
        int bag = hall.checkIn(0, 1, 9);
        hall.pass(3);
        due("readFor with a smudge of 9", hall.readFor(bag), 0);
        due("missesOf with a smudge of 9", hall.missesOf(bag), 0);
    }

    @Sentence("Terms: it has a strength (5, at first)")
    static void strengthAtFirst() {
        BagCarousel hall = Halls.with(0);
        due("reader()", hall.reader(), 5);
        int read = hall.checkIn(0, 1, 5);
        int missed = hall.checkIn(0, 1, 6);
        hall.pass(4);
        due("readFor with a smudge of 5", hall.readFor(read), 0);
        due("readFor with a smudge of 6", hall.readFor(missed), -1);
    }

    @Sentence("Terms: Chutes: 4, numbered from 0")
    static void fourChutes() {
        for (int chute = 0; chute < 4; chute++) {
            due("bagsIn " + chute, new BagCarousel().bagsIn(chute), 0);
        }
        Check.refused(BagCarousel::new, "bagsIn(-1)", Check.NO_SUCH, hall -> hall.bagsIn(-1));
        Check.refused(BagCarousel::new, "bagsIn(4)", Check.NO_SUCH, hall -> hall.bagsIn(4));
    }

    @Sentence("Terms: the chute c is at the place 4 + 2 * c")
    static void placesOfChutes() {
        for (int chute = 0; chute < 4; chute++) {
            BagCarousel hall = Halls.with(chute);
            int bag = hall.checkIn(0, 1, 0);
            hall.pass(4 + 2 * chute);
            due("placeOf before the chute " + chute, hall.placeOf(bag), 3 + 2 * chute);
            hall.pass(1);
            due("chuteOf at the place of the chute " + chute, hall.chuteOf(bag), chute);
        }
    }

    @Sentence("Terms: has room for 1 to 20 bags: the least")
    static void leastRoom() {
        BagCarousel hall = Halls.with(0);
        hall.setRoom(0, 1);
        Halls.checkIn(hall, 0, 2, 0);
        due("pass(60)", hall.pass(60), 1);
        due("whereIs the first", hall.whereIs(0), Halls.CHUTE);
        due("whereIs the second", hall.whereIs(1), Halls.BELT);
    }

    @Sentence("Terms: has room for 1 to 20 bags: the most")
    static void mostRoom() {
        BagCarousel hall = Halls.with(0);
        hall.setRoom(0, 20);
        Halls.checkIn(hall, 0, 21, 0);
        due("pass(60)", hall.pass(60), 20);
        due("whereIs the 20th", hall.whereIs(19), Halls.CHUTE);
        due("whereIs the 21st", hall.whereIs(20), Halls.BELT);
    }

    @Sentence("Terms: has room (5, at first)")
    static void roomAtFirst() {
        for (int chute = 0; chute < 4; chute++) {
            BagCarousel hall = Halls.with(chute);
            due("roomOf " + chute, hall.roomOf(chute), 5);
            Halls.checkIn(hall, 0, 6, 0);
            due("pass(60) to the chute " + chute, hall.pass(60), 5);
            due("whereIs the 6th", hall.whereIs(5), Halls.BELT);
        }
    }

    @Sentence("Terms: Flights. At most 6, numbered from 0")
    static void sixFlights() {
        BagCarousel hall = new BagCarousel();
        for (int flight = 0; flight < 6; flight++) {
            due("addFlight()", hall.addFlight(), flight);
        }
        Check.refused(() -> Halls.with(0, 1, 2, 3, 0, 1), "the 7th addFlight()", Check.NOT_NOW, BagCarousel::addFlight);
    }

    @Sentence("Terms: each has a chute, or none (none, at first)")
    static void noChuteAtFirst() {
        BagCarousel hall = Halls.with(-1, -1, -1, -1, -1, -1);
        for (int flight = 0; flight < 6; flight++) {
            due("chuteOfFlight " + flight, hall.chuteOfFlight(flight), -1);
        }
    }

    @Sentence("Terms: and is gone, or not (not, at first)")
    static void notGoneAtFirst() {
        BagCarousel hall = Halls.with(-1, -1, -1, -1, -1, -1);
        for (int flight = 0; flight < 6; flight++) {
            due("isGone " + flight, hall.isGone(flight), false);
        }
    }

    @Sentence("Terms: Several can have the same chute.")
    static void sixFlightsOneChute() {
        BagCarousel hall = Halls.with(3, 3, 3, 3, 3, 3);
        hall.setRoom(3, 6);
        for (int flight = 0; flight < 6; flight++) {
            due("chuteOfFlight " + flight, hall.chuteOfFlight(flight), 3);
            hall.checkIn(flight, 1, 0);
        }
        due("pass(60)", hall.pass(60), 6);
        due("bagsIn(3)", hall.bagsIn(3), 6);
        due("misroutedIn(3)", hall.misroutedIn(3), 0);
    }

    @Sentence("Terms: Bags. At most 40, numbered likewise")
    static void fortyBags() {
        BagCarousel hall = Halls.with(-1);
        for (int bag = 0; bag < 40; bag++) {
            due("checkIn()", hall.checkIn(0, 1, 0), bag);
        }
        Check.refused(() -> Halls.lined(40), "the 41st checkIn()", Check.NOT_NOW, full -> full.checkIn(0, 1, 0));
    }

    @Sentence("Terms: each has a flight, a size, 1 to 9")
    static void sizes() {
        BagCarousel hall = Halls.with(-1);
        for (int size = 1; size <= 9; size++) {
            due("checkIn of the size " + size, hall.checkIn(0, size, 0), size - 1);
        }
        Check.refused(Halls::busy, "the size 0", Check.WRONG, busy -> busy.checkIn(Halls.FLIGHT, 0, 0));
        Check.refused(Halls::busy, "the size 10", Check.WRONG, busy -> busy.checkIn(Halls.FLIGHT, 10, 0));
    }

    @Sentence("Terms: a tag that is smudged by 0 to 9")
    static void smudges() {
        BagCarousel hall = Halls.with(-1);
        for (int smudge = 0; smudge <= 9; smudge++) {
            due("checkIn with a smudge of " + smudge, hall.checkIn(0, 1, smudge), smudge);
        }
        Check.refused(Halls::busy, "the smudge -1", Check.WRONG, busy -> busy.checkIn(Halls.FLIGHT, 1, -1));
        Check.refused(Halls::busy, "the smudge 10", Check.WRONG, busy -> busy.checkIn(Halls.FLIGHT, 1, 10));
    }

    @Sentence("Terms: It has been read for a chute, or not")
    static void notReadAtFirst() {
        BagCarousel hall = Halls.with(0);
        due("readFor in line", hall.readFor(hall.checkIn(0, 1, 0)), -1);
        due("readFor in the room for big ones", hall.readFor(hall.checkIn(0, 9, 0)), -1);
        hall.pass(3);
        due("readFor behind the reader", hall.readFor(0), 0);
    }

    @Sentence("Terms: and has been missed by the reader so many times")
    static void notMissedAtFirst() {
        BagCarousel hall = Halls.with(0);
        due("missesOf in line", hall.missesOf(hall.checkIn(0, 1, 9)), 0);
        due("missesOf in the room for big ones", hall.missesOf(hall.checkIn(0, 9, 9)), 0);
        hall.pass(3);
        due("missesOf behind the reader", hall.missesOf(0), 1);
    }

    // ---- misrouted bags and tracing files

    @Sentence("Terms: A bag is misrouted, if it is in a chute that is not the one of its flight")
    static void misroutedInAnotherChute() {
        BagCarousel hall = Halls.with(0);
        int bag = Halls.bring(hall, 0);
        due("isMisrouted in the chute of its flight", hall.isMisrouted(bag), false);
        hall.giveChute(0, 1);
        due("isMisrouted in another one", hall.isMisrouted(bag), true);
    }

    @Sentence("Terms: or its flight is gone and it is in a chute.")
    static void misroutedBehindItsFlight() {
        BagCarousel hall = Halls.late();
        due("chuteOf", hall.chuteOf(Halls.CHUTE_BAG), hall.chuteOfFlight(Halls.GONE_FLIGHT));
        due("isMisrouted", hall.isMisrouted(Halls.CHUTE_BAG), true);
    }

    @Sentence("Terms: A bag is misrouted, if it is in a chute (and nowhere else)")
    static void misroutedInChutesAlone() {
        BagCarousel hall = Halls.late();
        for (int bag = 0; bag < 6; bag++) {
            due("isMisrouted of " + bag, hall.isMisrouted(bag), bag == Halls.CHUTE_BAG);
        }
    }

    @Sentence("Terms: A bag has a tracing file, open or closed, or none.")
    static void fileNoneOpenClosed() {
        BagCarousel hall = Halls.with(-1, -1);
        int bag = hall.checkIn(0, 9, 0);
        due("none: open", hall.openFiles(), 0);
        due("none: closed", hall.closedFiles(), 0);
        hall.depart(0);
        due("open: open", hall.openFiles(), 1);
        due("open: closed", hall.closedFiles(), 0);
        hall.forward(bag, 1);
        due("closed: open", hall.openFiles(), 0);
        due("closed: closed", hall.closedFiles(), 1);
    }

    @Sentence("Terms: Opening a closed one makes it open again.")
    static void openAgain() {
        BagCarousel hall = Halls.with(-1, -1);
        int bag = hall.checkIn(0, 9, 0);
        hall.depart(0);
        hall.forward(bag, 1);
        due("hasOpenFile when it is closed", hall.hasOpenFile(bag), false);
        hall.depart(1);
        due("hasOpenFile when it is open again", hall.hasOpenFile(bag), true);
        due("openFiles()", hall.openFiles(), 1);
        due("closedFiles()", hall.closedFiles(), 0);
    }

    // ---- the course of a minute

    @Sentence("Terms: 1. All bags on the belt go on to the next place")
    static void allGoOn() {
        BagCarousel hall = Halls.lined(12);
        hall.pass(12);
        for (int bag = 0; bag < 12; bag++) {
            due("placeOf " + bag, hall.placeOf(bag), 11 - bag);
        }
        hall.pass(1);
        for (int bag = 1; bag < 12; bag++) {
            due("placeOf " + bag + " a minute later", hall.placeOf(bag), 12 - bag);
        }
    }

    @Sentence("Terms: 1. (from 11 to 0)")
    static void fromElevenToNought() {
        BagCarousel hall = Halls.lined(1);
        hall.pass(12);
        due("placeOf", hall.placeOf(0), 11);
        hall.pass(1);
        due("placeOf a minute later", hall.placeOf(0), 0);
        hall.pass(12);
        due("placeOf a round later", hall.placeOf(0), 0);
    }

    @Sentence("Terms: 2. and has not been read")
    static void notReadTwice() {
        BagCarousel hall = Halls.filled(0, 1);
        hall.setRoom(0, 1);
        int bag = hall.checkIn(0, 1, 0);
        hall.pass(3);
        due("readFor", hall.readFor(bag), 0);
        hall.giveChute(0, 1);
        hall.pass(12);
        due("placeOf when it comes round", hall.placeOf(bag), 2);
        due("readFor then, when its flight has another chute", hall.readFor(bag), 0);
        hall.setReader(0);
        hall.pass(36);
        due("missesOf of one that has been read", hall.missesOf(bag), 0);
        due("whereIs then", hall.whereIs(bag), Halls.BELT);
    }

    @Sentence("Terms: 2. if its smudge is the reader's strength or less")
    static void smudgeAndStrength() {
        for (int strength = 0; strength <= 9; strength++) {
            BagCarousel hall = Halls.with(2);
            hall.setReader(strength);
            for (int smudge = 0; smudge <= 9; smudge++) {
                hall.checkIn(0, 1, smudge);
            }
            hall.setRoom(2, 20);
            hall.pass(12);
            for (int smudge = 0; smudge <= 9; smudge++) {
                String what = " with smudge " + smudge + " and strength " + strength;
                due("readFor" + what, hall.readFor(smudge), smudge <= strength ? 2 : -1);
                due("missesOf" + what, hall.missesOf(smudge), smudge <= strength ? 0 : 1);
            }
        }
    }

    @Sentence("Terms: 2. and its flight has a chute")
    static void flightWithoutChute() {
        BagCarousel hall = Halls.with(-1, 0);
        int without = hall.checkIn(0, 1, 0);
        int with = hall.checkIn(1, 1, 0);
        hall.pass(4);
        due("readFor without a chute", hall.readFor(without), -1);
        due("missesOf without a chute", hall.missesOf(without), 1);
        due("readFor with a chute", hall.readFor(with), 0);
        hall.giveChute(0, 3);
        hall.pass(11);
        due("readFor, when it has one at last", hall.readFor(without), 3);
        due("missesOf then", hall.missesOf(without), 1);
    }

    @Sentence("Terms: 2. otherwise it has been missed once more, and if that is three times, it comes to the desk.")
    static void missedThreeTimes() {
        BagCarousel hall = Halls.with(0);
        int bag = hall.checkIn(0, 1, 9);
        int[] whenMissed = {3, 15, 27};
        for (int times = 0; times < 3; times++) {
            hall.pass(whenMissed[times] - hall.minute() - 1);
            due("missesOf before", hall.missesOf(bag), times);
            due("whereIs before", hall.whereIs(bag), Halls.BELT);
            hall.pass(1);
            due("missesOf", hall.missesOf(bag), times + 1);
        }
        due("whereIs of one that was missed three times", hall.whereIs(bag), Halls.DESK);
        due("bagAt(2)", hall.bagAt(2), -1);
        due("onBelt()", hall.onBelt(), 0);
        due("atDesk()", hall.atDesk(), 1);
    }

    @Sentence("Terms: 2. if that is three times (a bag that was read behind two misses stays on the belt)")
    static void missedTwiceAndRead() {
        BagCarousel hall = Halls.with(3);
        int bag = hall.checkIn(0, 1, 9);
        hall.pass(26);
        hall.setReader(9);
        hall.pass(1);
        due("whereIs", hall.whereIs(bag), Halls.BELT);
        due("readFor", hall.readFor(bag), 3);
        due("missesOf", hall.missesOf(bag), 2);
    }

    @Sentence("Terms: 3. if a bag is at its place that has been read for it")
    static void chuteTakesItsOwn() {
        BagCarousel hall = Halls.with(2);
        int unread = hall.checkIn(0, 1, 9);
        int read = hall.checkIn(0, 1, 0);
        hall.pass(8);
        hall.giveChute(0, 0);
        due("whereIs before its chute", hall.whereIs(read), Halls.BELT);
        due("pass(1)", hall.pass(1), 0);
        due("whereIs of the unread one at that place", hall.placeOf(unread), 8);
        due("pass(1)", hall.pass(1), 1);
        due("chuteOf of the read one", hall.chuteOf(read), 2);
        due("pass(16)", hall.pass(16), 0);
        due("whereIs of the unread one, behind two rounds", hall.whereIs(unread), Halls.BELT);
    }

    @Sentence("Terms: 3. Of each chute: if a bag is at its place (an empty belt fills none)")
    static void chutesOfAnEmptyBelt() {
        BagCarousel hall = Halls.with(0, 1, 2, 3);
        due("pass(60)", hall.pass(60), 0);
        for (int chute = 0; chute < 4; chute++) {
            due("bagsIn " + chute, hall.bagsIn(chute), 0);
        }
    }

    @Sentence("Terms: 3. Of each chute, by numbers (all four in one minute)")
    static void allChutesInOneMinute() {
        due("pass(1)", beforeAllChutes().pass(1), 4);
    }

    /** In the next minute a bag comes to each of the four chutes. */
    static BagCarousel beforeAllChutes() {
        BagCarousel hall = Halls.with(0, 1, 2, 3);
        for (int flight = 3; flight > 0; flight--) {
            hall.checkIn(flight, 1, 0);
            hall.pass(2);
        }
        hall.checkIn(0, 1, 0);
        hall.pass(4);
        due("onBelt() before the four", hall.onBelt(), 4);
        return hall;
    }

    @Sentence("Terms: 3. and it has room")
    static void chuteWithRoom() {
        BagCarousel hall = Halls.filled(1, 19);
        Halls.checkIn(hall, 0, 2, 0);
        due("pass(7) into the last room", hall.pass(7), 1);
        due("bagsIn", hall.bagsIn(1), 20);
        due("pass(1) without room", hall.pass(1), 0);
        due("placeOf at the full chute", hall.placeOf(20), 6);
        due("pass(12) without room", hall.pass(12), 0);
        due("placeOf a round later", hall.placeOf(20), 6);
        hall.depart(0);
        due("pass(11)", hall.pass(11), 0);
        due("pass(1) with room again", hall.pass(1), 1);
    }

    @Sentence("Terms: 4. If the place 0 is free")
    static void placeNoughtIsTaken() {
        BagCarousel hall = Halls.lined(1);
        hall.pass(12);
        hall.checkIn(0, 1, 0);
        hall.pass(1);
        due("bagAt(0)", hall.bagAt(0), 0);
        due("whereIs of the one in line", hall.whereIs(1), Halls.LINE);
        hall.pass(1);
        due("bagAt(0) when it is free", hall.bagAt(0), 1);
        due("placeOf of the other", hall.placeOf(0), 1);
    }

    @Sentence("Terms: 4. the first one in line comes to it")
    static void firstInLine() {
        BagCarousel hall = Halls.lined(40);
        for (int bag = 0; bag < 12; bag++) {
            hall.pass(1);
            due("bagAt(0)", hall.bagAt(0), bag);
            due("inLine()", hall.inLine(), 39 - bag);
        }
    }

    @Sentence("Terms: 4. the first one in line, if any")
    static void nooneInLine() {
        BagCarousel hall = Halls.lined(1);
        hall.pass(1);
        due("inLine() behind the last", hall.inLine(), 0);
        hall.pass(1);
        due("bagAt(0)", hall.bagAt(0), -1);
        due("inLine()", hall.inLine(), 0);
        due("onBelt()", hall.onBelt(), 1);
    }

    @Sentence("Terms: A minute goes like this: 1. before 4.: a bag from the line does not go on in the same minute")
    static void ontoTheBeltAndNoFurther() {
        BagCarousel hall = Halls.lined(1);
        hall.pass(1);
        due("placeOf", hall.placeOf(0), 0);
    }

    @Sentence("Terms: A minute goes like this: 2. before 4.: a place that the desk made free comes to 0 and is taken")
    static void freedPlaceIsTaken() {
        BagCarousel hall = Halls.lined(13);
        hall.pass(36);
        due("bagAt(11) that the desk made free", hall.bagAt(11), -1);
        due("inLine()", hall.inLine(), 1);
        hall.pass(1);
        due("bagAt(0)", hall.bagAt(0), 12);
        due("inLine() then", hall.inLine(), 0);
    }

    @Sentence("Terms: 5. The minute is 1 greater.")
    static void minuteIsGreater() {
        BagCarousel hall = new BagCarousel();
        for (int minutes = 1; minutes <= 60; minutes++) {
            int before = hall.minute();
            hall.pass(minutes);
            due("minute() behind " + minutes, hall.minute() - before, minutes);
        }
    }

    // ---- exceptions

    @Sentence("Terms: If several exceptions apply, the one that is named first is thrown: giveChute")
    static void firstNamedOfGiveChute() {
        refusedBusy("giveChute, gone, to no chute", Check.NO_SUCH, hall -> hall.giveChute(Halls.GONE_FLIGHT, 4));
        refusedBusy("giveChute, gone, to chute -1", Check.NO_SUCH, hall -> hall.giveChute(Halls.GONE_FLIGHT, -1));
    }

    @Sentence("Terms: If several exceptions apply, the one that is named first is thrown: setRoom")
    static void firstNamedOfSetRoom() {
        refusedBusy("setRoom(4, 0)", Check.NO_SUCH, hall -> hall.setRoom(4, 0));
        refusedBusy("setRoom(-1, 21)", Check.NO_SUCH, hall -> hall.setRoom(-1, 21));
    }

    @Sentence("Terms: If several exceptions apply, the one that is named first is thrown: checkIn")
    static void firstNamedOfCheckIn() {
        refusedBusy("checkIn(3, 0, 0)", Check.NO_SUCH, hall -> hall.checkIn(3, 0, 0));
        refusedBusy("checkIn(-1, 1, 10)", Check.NO_SUCH, hall -> hall.checkIn(-1, 1, 10));
        refusedBusy("checkIn, gone, size 10", Check.WRONG, hall -> hall.checkIn(Halls.GONE_FLIGHT, 10, 0));
        refusedBusy("checkIn, gone, smudge -1", Check.WRONG, hall -> hall.checkIn(Halls.GONE_FLIGHT, 1, -1));
        Check.refused(() -> Halls.lined(40), "the 41st of no flight", Check.NO_SUCH, hall -> hall.checkIn(1, 1, 0));
        Check.refused(() -> Halls.lined(40), "the 41st of size 0", Check.WRONG, hall -> hall.checkIn(0, 0, 0));
        Check.refused(() -> Halls.lined(40), "the 41st of smudge 10", Check.WRONG, hall -> hall.checkIn(0, 1, 10));
    }

    @Sentence("Terms: If several exceptions apply, the one that is named first is thrown: forward")
    static void firstNamedOfForward() {
        refusedBusy("forward of a loaded one to no flight", Check.NO_SUCH, hall -> hall.forward(Halls.LOADED_BAG, 3));
        refusedBusy("forward from the belt to flight -1", Check.NO_SUCH, hall -> hall.forward(Halls.BELT_BAG, -1));
        refusedBusy("forward of no bag to a gone one", Check.NO_SUCH, hall -> hall.forward(6, Halls.GONE_FLIGHT));
        refusedBusy("forward of bag -1 to a gone one", Check.NO_SUCH, hall -> hall.forward(-1, Halls.GONE_FLIGHT));
    }

    @Sentence("Terms: If several exceptions apply, the one that is named first is thrown: readyAfter")
    static void firstNamedOfReadyAfter() {
        refusedBusy("readyAfter(3, 0)", Check.NO_SUCH, hall -> hall.readyAfter(3, 0));
        refusedBusy("readyAfter(-1, 61)", Check.NO_SUCH, hall -> hall.readyAfter(-1, 61));
    }

    @Sentence("Terms: If several exceptions apply, the one that is named first is thrown: bestChute")
    static void firstNamedOfBestChute() {
        refusedBusy("bestChute(3, 0)", Check.NO_SUCH, hall -> hall.bestChute(3, 0));
        refusedBusy("bestChute(-1, 61)", Check.NO_SUCH, hall -> hall.bestChute(-1, 61));
        refusedBusy("bestChute, gone, 0", Check.WRONG, hall -> hall.bestChute(Halls.GONE_FLIGHT, 0));
        refusedBusy("bestChute, gone, 61", Check.WRONG, hall -> hall.bestChute(Halls.GONE_FLIGHT, 61));
    }

    private static void refusedBusy(String call, Class<? extends RuntimeException> want,
            java.util.function.Consumer<BagCarousel> body) {
        Check.refused(Halls::busy, call, want, body);
    }
}
