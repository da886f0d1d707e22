import java.util.function.Supplier;

/** The promises 6 to 11: the calls that move bags, let flights depart and let minutes go by. */
public final class EdgesOfBagsTest {
    public static void main(String[] args) throws IllegalAccessException {
        Check.sentences(EdgesOfBagsTest.class);
    }

    private static void due(String call, Object got, Object want) {
        Check.due(call, got, want);
    }

    // ---- promise 6

    @Sentence("Promise 6: it comes to the end of the line (an empty one)")
    static void checkInToAnEmptyLine() {
        BagCarousel hall = Halls.with(-1);
        int bag = hall.checkIn(0, 1, 0);
        due("whereIs", hall.whereIs(bag), Halls.LINE);
        due("inLine()", hall.inLine(), 1);
        hall.pass(1);
        due("bagAt(0)", hall.bagAt(0), bag);
    }

    @Sentence("Promise 6: it comes to the end of the line (the longest one)")
    static void checkInToTheLongestLine() {
        BagCarousel hall = Halls.lined(40);
        due("inLine()", hall.inLine(), 40);
        // Twelve at a time go round, unread, and leave for the desk behind 36 minutes.
        hall.pass(60);
        hall.pass(51);
        due("inLine() before the last", hall.inLine(), 1);
        due("bagAt(0)", hall.bagAt(0), 38);
        due("whereIs the last", hall.whereIs(39), Halls.LINE);
        hall.pass(1);
        due("inLine() behind the last", hall.inLine(), 0);
        due("bagAt(0)", hall.bagAt(0), 39);
    }

    @Sentence("Promise 6: one of a size of more than 7 comes into the room for big ones.")
    static void bigBags() {
        BagCarousel hall = Halls.with(0);
        for (int size = 1; size <= 9; size++) {
            int bag = hall.checkIn(0, size, 0);
            due("whereIs of size " + size, hall.whereIs(bag), size > 7 ? Halls.BIG_ROOM : Halls.LINE);
        }
        due("inLine()", hall.inLine(), 7);
    }

    @Sentence("Promise 6: one of a size of more than 7 comes into the room for big ones (as many as there can be)")
    static void fortyBigBags() {
        BagCarousel hall = fortyBig();
        due("inLine()", hall.inLine(), 0);
        due("whereIs the first", hall.whereIs(0), Halls.BIG_ROOM);
        due("whereIs the last", hall.whereIs(39), Halls.BIG_ROOM);
        hall.pass(60);
        due("onBelt() an hour later", hall.onBelt(), 0);
    }

    private static BagCarousel fortyBig() {
        BagCarousel hall = Halls.with(0, 1);
        for (int bag = 0; bag < 40; bag++) {
            hall.checkIn(0, 8, 0);
        }
        return hall;
    }

    @Sentence("Promise 6: Returns its number.")
    static void numbersOfBags() {
        BagCarousel hall = Halls.with(0, 1);
        for (int bag = 0; bag < 40; bag++) {
            due("checkIn()", hall.checkIn(bag % 2, 1 + bag % 9, bag % 10), bag);
        }
        due("bags()", hall.bags(), 40);
    }

    @Sentence("Promise 6: Throws IndexOutOfBoundsException if there is no such flight")
    static void checkInForNoFlight() {
        due("checkIn for the last", Halls.busy().checkIn(2, 1, 0), 6);
        for (int flight : new int[] {-1, 3, 6}) {
            Check.refused(Halls::busy, "checkIn for " + flight, Check.NO_SUCH, hall -> hall.checkIn(flight, 1, 0));
        }
        for (int flight : Check.FAR_OFF) {
            Check.refused(Halls::busy, "checkIn for " + flight, Check.NO_SUCH, hall -> hall.checkIn(flight, 1, 0));
        }
    }

    @Sentence("Promise 6: Throws IllegalArgumentException if size is not 1 to 9")
    static void noSuchSize() {
        due("size 1", Halls.busy().checkIn(1, 1, 0), 6);
        due("size 9", Halls.busy().checkIn(1, 9, 0), 6);
        for (int size : new int[] {0, -1, 10}) {
            Check.refused(Halls::busy, "size " + size, Check.WRONG, hall -> hall.checkIn(1, size, 0));
        }
        for (int size : Check.FAR_OFF) {
            Check.refused(Halls::busy, "size " + size, Check.WRONG, hall -> hall.checkIn(1, size, 0));
        }
    }

    @Sentence("Promise 6: Throws IllegalArgumentException if smudge is not 0 to 9")
    static void noSuchSmudge() {
        due("smudge 0", Halls.busy().checkIn(1, 1, 0), 6);
        due("smudge 9", Halls.busy().checkIn(1, 1, 9), 6);
        Check.refused(Halls::busy, "smudge -1", Check.WRONG, hall -> hall.checkIn(1, 1, -1));
        Check.refused(Halls::busy, "smudge 10", Check.WRONG, hall -> hall.checkIn(1, 1, 10));
        for (int smudge : Check.FAR_OFF) {
            Check.refused(Halls::busy, "smudge " + smudge, Check.WRONG, hall -> hall.checkIn(1, 1, smudge));
        }
    }

    @Sentence("Promise 6: Throws IllegalStateException if there are 40")
    static void noFortyFirstBag() {
        due("the 40th", Halls.lined(39).checkIn(0, 1, 0), 39);
        due("the 40th, a big one", Halls.lined(39).checkIn(0, 8, 0), 39);
        Check.refused(() -> Halls.lined(40), "the 41st", Check.NOT_NOW, hall -> hall.checkIn(0, 1, 0));
        Check.refused(() -> Halls.lined(40), "the 41st, a big one", Check.NOT_NOW, hall -> hall.checkIn(0, 8, 0));
    }

    @Sentence("Promise 6: Throws IllegalStateException if there are 40 (loaded ones are there as well)")
    static void noFortyFirstBagBehindLoadedOnes() {
        Check.refused(EdgesOfBagsTest::fortyWithLoaded, "the 41st", Check.NOT_NOW, hall -> hall.checkIn(1, 1, 0));
    }

    private static BagCarousel fortyWithLoaded() {
        BagCarousel hall = Halls.filled(0, 20);
        hall.depart(0);
        hall.addFlight();
        Halls.checkIn(hall, 1, 20, 0);
        return hall;
    }

    @Sentence("Promise 6: Throws IllegalStateException if the flight is gone")
    static void checkInForAGoneFlight() {
        Check.refused(Halls::busy, "checkIn", Check.NOT_NOW, hall -> hall.checkIn(Halls.GONE_FLIGHT, 1, 0));
        Check.refused(Halls::busy, "a big one", Check.NOT_NOW, hall -> hall.checkIn(Halls.GONE_FLIGHT, 9, 0));
    }

    // ---- promise 7

    @Sentence("Promise 7: Carries a bag from the desk")
    static void carryFromTheDesk() {
        BagCarousel hall = Halls.busy();
        due("carry", hall.carry(Halls.DESK_BAG), 1);
        due("whereIs", hall.whereIs(Halls.DESK_BAG), Halls.CHUTE);
        due("chuteOf", hall.chuteOf(Halls.DESK_BAG), 1);
        due("atDesk()", hall.atDesk(), 0);
        due("missesOf", hall.missesOf(Halls.DESK_BAG), 3);
        due("readFor", hall.readFor(Halls.DESK_BAG), -1);
    }

    @Sentence("Promise 7: or from the room for big ones")
    static void carryFromTheRoomForBigOnes() {
        BagCarousel hall = Halls.busy();
        due("carry", hall.carry(Halls.BIG_BAG), 1);
        due("whereIs", hall.whereIs(Halls.BIG_BAG), Halls.CHUTE);
        due("chuteOf", hall.chuteOf(Halls.BIG_BAG), 1);
        due("atDesk()", hall.atDesk(), 1);
    }

    @Sentence("Promise 7: into the chute of its flight. Returns the chute (the first and the last).")
    static void carryIntoFirstAndLastChute() {
        BagCarousel hall = Halls.with(0, 3);
        due("carry to the first", hall.carry(hall.checkIn(0, 8, 0)), 0);
        due("chuteOf", hall.chuteOf(0), 0);
        due("carry to the last", hall.carry(hall.checkIn(1, 8, 0)), 3);
        due("chuteOf", hall.chuteOf(1), 3);
    }

    @Sentence("Promise 7: into the chute of its flight (not the one for which it was read)")
    static void carryIntoTheNewChute() {
        BagCarousel hall = Halls.filled(0, 1);
        hall.giveChute(0, 3);
        hall.sweep(0);
        due("readFor", hall.readFor(0), 0);
        due("carry", hall.carry(0), 3);
        due("isMisrouted", hall.isMisrouted(0), false);
        due("readFor then", hall.readFor(0), 0);
    }

    @Sentence("Promise 7: Throws IndexOutOfBoundsException if there is no such bag")
    static void carryNoBag() {
        Check.refused(BagCarousel::new, "carry(0) of none", Check.NO_SUCH, hall -> hall.carry(0));
        for (int bag : new int[] {-1, 6, 40}) {
            Check.refused(Halls::busy, "carry " + bag, Check.NO_SUCH, hall -> hall.carry(bag));
        }
        for (int bag : Check.FAR_OFF) {
            Check.refused(Halls::busy, "carry " + bag, Check.NO_SUCH, hall -> hall.carry(bag));
        }
    }

    @Sentence("Promise 7: Throws IllegalStateException if it is neither at the desk nor in this room: in line")
    static void carryFromTheLine() {
        Check.refused(Halls::busy, "carry", Check.NOT_NOW, hall -> hall.carry(Halls.LINE_BAG));
    }

    @Sentence("Promise 7: Throws IllegalStateException if it is neither at the desk nor in this room: on the belt")
    static void carryFromTheBelt() {
        Check.refused(Halls::busy, "carry", Check.NOT_NOW, hall -> hall.carry(Halls.BELT_BAG));
    }

    @Sentence("Promise 7: Throws IllegalStateException if it is neither at the desk nor in this room: in its chute")
    static void carryFromItsChute() {
        Check.refused(Halls::busy, "carry", Check.NOT_NOW, hall -> hall.carry(Halls.CHUTE_BAG));
    }

    @Sentence("Promise 7: Throws IllegalStateException if it is neither at the desk nor in this room: misrouted")
    static void carryFromAnotherChute() {
        Supplier<BagCarousel> maker = () -> {
            BagCarousel hall = Halls.busy();
            hall.giveChute(Halls.FLIGHT, 2);
            return hall;
        };
        Check.refused(maker, "carry", Check.NOT_NOW, hall -> hall.carry(Halls.CHUTE_BAG));
    }

    @Sentence("Promise 7: Throws IllegalStateException if it is neither at the desk nor in this room: loaded")
    static void carryOfALoadedOne() {
        Check.refused(Halls::busy, "carry", Check.NOT_NOW, hall -> hall.carry(Halls.LOADED_BAG));
    }

    @Sentence("Promise 7: Throws IllegalStateException if its flight is gone")
    static void carryForAGoneFlight() {
        Check.refused(Halls::late, "carry from the desk", Check.NOT_NOW, hall -> hall.carry(Halls.DESK_BAG));
        Check.refused(Halls::late, "carry of a big one", Check.NOT_NOW, hall -> hall.carry(Halls.BIG_BAG));
    }

    @Sentence("Promise 7: Throws IllegalStateException if its flight has no chute")
    static void carryWithoutAChute() {
        Supplier<BagCarousel> maker = () -> {
            BagCarousel hall = Halls.with(-1, 0);
            hall.checkIn(0, 8, 0);
            return hall;
        };
        Check.refused(maker, "carry of a big one", Check.NOT_NOW, hall -> hall.carry(0));
        Supplier<BagCarousel> missed = () -> {
            BagCarousel hall = Halls.lined(1);
            hall.pass(27);
            return hall;
        };
        Check.refused(missed, "carry from the desk", Check.NOT_NOW, hall -> hall.carry(0));
    }

    @Sentence("Promise 7: Throws IllegalStateException if the chute has no room")
    static void carryIntoAFullChute() {
        due("carry into the last room", beforeCarry(19, 20).carry(19), 3);
        due("carry into the only room", beforeCarry(0, 1).carry(0), 3);
        Check.refused(() -> beforeCarry(20, 20), "without room", Check.NOT_NOW, hall -> hall.carry(20));
        Check.refused(() -> beforeCarry(1, 1), "without room", Check.NOT_NOW, hall -> hall.carry(1));
        Check.refused(() -> beforeCarry(2, 1), "with more in it than room", Check.NOT_NOW, hall -> hall.carry(2));
    }

    @Sentence("Promise 7: Throws IllegalStateException if the chute has no room (for a bag at the desk)")
    static void carryFromTheDeskIntoAFullChute() {
        Supplier<BagCarousel> maker = () -> {
            BagCarousel hall = Halls.busy();
            hall.setRoom(1, 1);
            return hall;
        };
        Check.refused(maker, "carry", Check.NOT_NOW, hall -> hall.carry(Halls.DESK_BAG));
    }

    /** So many bags are in the chute, which has this room; the next bag is in the room for big ones. */
    private static BagCarousel beforeCarry(int bags, int room) {
        BagCarousel hall = Halls.filled(3, bags);
        hall.setRoom(3, room);
        hall.checkIn(0, 8, 0);
        return hall;
    }

    // ---- promise 8

    @Sentence("Promise 8: Forwards a bag of a flight that is gone: it has another flight then (the first and the last)")
    static void forwardToFirstAndLast() {
        BagCarousel hall = Halls.with(-1, -1, -1, -1, -1, -1);
        hall.checkIn(1, 8, 0);
        hall.checkIn(1, 8, 0);
        hall.depart(1);
        hall.forward(0, 0);
        hall.forward(1, 5);
        due("flightOf the one", hall.flightOf(0), 0);
        due("flightOf the other", hall.flightOf(1), 5);
        due("missingOf the gone one", hall.missingOf(1), 0);
    }

    @Sentence("Promise 8: and comes to the end of the line. Returns how many bags are in line then (an empty one)")
    static void forwardToAnEmptyLine() {
        BagCarousel hall = Halls.with(0, 1);
        int bag = Halls.bringToDesk(hall, 0);
        hall.depart(0);
        due("forward", hall.forward(bag, 1), 1);
        due("whereIs", hall.whereIs(bag), Halls.LINE);
        due("atDesk()", hall.atDesk(), 0);
        hall.pass(1);
        due("bagAt(0)", hall.bagAt(0), bag);
    }

    @Sentence("Promise 8: and comes to the end of the line. Returns how many bags are in line then (the longest one)")
    static void forwardToTheLongestLine() {
        BagCarousel hall = Halls.with(0, -1);
        int bag = Halls.bringToDesk(hall, 0);
        hall.depart(0);
        Halls.checkIn(hall, 1, 39, 0);
        due("forward", hall.forward(bag, 1), 40);
        due("inLine()", hall.inLine(), 40);
        hall.pass(60);
        hall.pass(51);
        due("whereIs behind 111 minutes", hall.whereIs(bag), Halls.LINE);
        due("bagAt(0)", hall.bagAt(0), 39);
        hall.pass(1);
        due("bagAt(0) behind 112 minutes", hall.bagAt(0), bag);
    }

    @Sentence("Promise 8: (a big one into the room for big ones)")
    static void forwardOfABigOne() {
        BagCarousel hall = Halls.with(0, 1);
        hall.checkIn(0, 8, 0);
        hall.depart(0);
        due("forward with an empty line", hall.forward(0, 1), 0);
        due("whereIs", hall.whereIs(0), Halls.BIG_ROOM);
        due("flightOf", hall.flightOf(0), 1);
        due("carry", hall.carry(0), 1);
    }

    @Sentence("Promise 8: (a big one into the room for big ones): when it was at the desk")
    static void forwardOfABigOneAtTheDesk() {
        BagCarousel hall = Halls.with(0, 1, 2);
        hall.carry(hall.checkIn(0, 8, 0));
        Halls.checkIn(hall, 1, 3, 0);
        hall.giveChute(0, 3);
        hall.sweep(0);
        due("whereIs when it was swept", hall.whereIs(0), Halls.DESK);
        hall.depart(0);
        due("forward with three in line", hall.forward(0, 1), 3);
        due("whereIs", hall.whereIs(0), Halls.BIG_ROOM);
        due("atDesk()", hall.atDesk(), 0);
    }

    @Sentence("Promise 8: (a big one into the room for big ones): a bag of the size 7 is none")
    static void forwardOfTheSizeSeven() {
        BagCarousel hall = Halls.with(-1, 1);
        hall.checkIn(0, 7, 0);
        hall.pass(27);
        hall.depart(0);
        due("forward", hall.forward(0, 1), 1);
        due("whereIs", hall.whereIs(0), Halls.LINE);
    }

    @Sentence("Promise 8: it has not been read")
    static void forwardedIsUnread() {
        BagCarousel hall = Halls.with(0, 2);
        int bag = Halls.bring(hall, 0);
        hall.giveChute(0, 3);
        hall.sweep(0);
        hall.depart(0);
        due("readFor before", hall.readFor(bag), 0);
        hall.forward(bag, 1);
        due("readFor", hall.readFor(bag), -1);
        hall.pass(3);
        due("readFor at the reader", hall.readFor(bag), 2);
    }

    @Sentence("Promise 8: or missed")
    static void forwardedIsUnmissed() {
        BagCarousel hall = Halls.with(0, 1);
        int bag = Halls.bringToDesk(hall, 0);
        hall.depart(0);
        due("missesOf before", hall.missesOf(bag), 3);
        hall.forward(bag, 1);
        due("missesOf", hall.missesOf(bag), 0);
        hall.pass(26);
        due("missesOf before the third time", hall.missesOf(bag), 2);
        due("whereIs before the third time", hall.whereIs(bag), Halls.BELT);
        hall.pass(1);
        due("whereIs the third time", hall.whereIs(bag), Halls.DESK);
    }

    @Sentence("Promise 8: and an open file of it is closed.")
    static void forwardClosesTheFile() {
        BagCarousel hall = Halls.late();
        due("openFiles() before", hall.openFiles(), 5);
        hall.forward(Halls.DESK_BAG, Halls.FLIGHT);
        due("hasOpenFile", hall.hasOpenFile(Halls.DESK_BAG), false);
        due("openFiles()", hall.openFiles(), 4);
        due("closedFiles()", hall.closedFiles(), 1);
    }

    @Sentence("Promise 8: an open file of it is closed (a closed one stays so)")
    static void forwardWithAClosedFile() {
        BagCarousel hall = Halls.late();
        hall.sweep(0);
        due("closedFiles() when it was swept", hall.closedFiles(), 1);
        hall.forward(Halls.CHUTE_BAG, Halls.FLIGHT);
        due("hasOpenFile", hall.hasOpenFile(Halls.CHUTE_BAG), false);
        due("closedFiles()", hall.closedFiles(), 1);
        due("openFiles()", hall.openFiles(), 4);
    }

    @Sentence("Promise 8: its new flight (one without a chute is one as well)")
    static void forwardToAFlightWithoutAChute() {
        BagCarousel hall = Halls.late();
        due("forward", hall.forward(Halls.DESK_BAG, Halls.CHUTELESS_FLIGHT), 2);
        due("flightOf", hall.flightOf(Halls.DESK_BAG), Halls.CHUTELESS_FLIGHT);
    }

    @Sentence("Promise 8: Throws IndexOutOfBoundsException if there is no such bag")
    static void forwardNoBag() {
        for (int bag : new int[] {-1, 6, 40}) {
            Check.refused(Halls::late, "forward " + bag, Check.NO_SUCH, hall -> hall.forward(bag, Halls.FLIGHT));
        }
        for (int bag : Check.FAR_OFF) {
            Check.refused(Halls::late, "forward " + bag, Check.NO_SUCH, hall -> hall.forward(bag, Halls.FLIGHT));
        }
    }

    @Sentence("Promise 8: Throws IndexOutOfBoundsException if there is no such flight")
    static void forwardToNoFlight() {
        for (int flight : new int[] {-1, 3, 6}) {
            Check.refused(Halls::late, "to " + flight, Check.NO_SUCH, hall -> hall.forward(Halls.DESK_BAG, flight));
        }
        for (int flight : Check.FAR_OFF) {
            Check.refused(Halls::late, "to " + flight, Check.NO_SUCH, hall -> hall.forward(Halls.DESK_BAG, flight));
        }
    }

    @Sentence("Promise 8: Throws IllegalStateException if the bag is neither at the desk nor in the room: in line")
    static void forwardFromTheLine() {
        Check.refused(Halls::late, "forward", Check.NOT_NOW, hall -> hall.forward(Halls.LINE_BAG, Halls.FLIGHT));
    }

    @Sentence("Promise 8: Throws IllegalStateException if the bag is neither at the desk nor in the room: on the belt")
    static void forwardFromTheBelt() {
        Check.refused(Halls::late, "forward", Check.NOT_NOW, hall -> hall.forward(Halls.BELT_BAG, Halls.FLIGHT));
    }

    @Sentence("Promise 8: Throws IllegalStateException if the bag is neither at the desk nor in the room: in a chute")
    static void forwardFromAChute() {
        Check.refused(Halls::late, "forward", Check.NOT_NOW, hall -> hall.forward(Halls.CHUTE_BAG, Halls.FLIGHT));
    }

    @Sentence("Promise 8: Throws IllegalStateException if the bag is neither at the desk nor in the room: loaded")
    static void forwardOfALoadedOne() {
        Check.refused(Halls::late, "forward", Check.NOT_NOW, hall -> hall.forward(Halls.LOADED_BAG, Halls.FLIGHT));
    }

    @Sentence("Promise 8: Throws IllegalStateException if its flight is not gone")
    static void forwardOfAFlightThatIsThere() {
        Check.refused(Halls::busy, "from the desk", Check.NOT_NOW, hall -> hall.forward(Halls.DESK_BAG, 2));
        Check.refused(Halls::busy, "a big one", Check.NOT_NOW, hall -> hall.forward(Halls.BIG_BAG, 2));
        Check.refused(Halls::busy, "to its own", Check.NOT_NOW, hall -> hall.forward(Halls.DESK_BAG, Halls.FLIGHT));
    }

    @Sentence("Promise 8: Throws IllegalStateException if the new one is gone")
    static void forwardToAGoneFlight() {
        Supplier<BagCarousel> maker = () -> {
            BagCarousel hall = Halls.late();
            hall.depart(Halls.FLIGHT);
            return hall;
        };
        Check.refused(maker, "from the desk", Check.NOT_NOW, hall -> hall.forward(Halls.DESK_BAG, Halls.FLIGHT));
        Check.refused(maker, "a big one", Check.NOT_NOW, hall -> hall.forward(Halls.BIG_BAG, Halls.FLIGHT));
        Check.refused(maker, "to its own", Check.NOT_NOW, hall -> hall.forward(Halls.DESK_BAG, Halls.GONE_FLIGHT));
    }

    // ---- promise 9

    @Sentence("Promise 9: Returns how many bags come to the desk (an empty chute, the first and the last)")
    static void sweepOfAnEmptyChute() {
        BagCarousel hall = new BagCarousel();
        due("sweep(0)", hall.sweep(0), 0);
        due("sweep(3)", hall.sweep(3), 0);
        due("atDesk()", hall.atDesk(), 0);
    }

    @Sentence("Promise 9: all misrouted bags in it come to the desk (none is misrouted)")
    static void sweepOfRightBags() {
        BagCarousel hall = Halls.filled(3, 20);
        due("sweep", hall.sweep(3), 0);
        due("bagsIn", hall.bagsIn(3), 20);
        due("atDesk()", hall.atDesk(), 0);
    }

    @Sentence("Promise 9: all misrouted bags in it come to the desk (as many as there can be)")
    static void sweepOfTwenty() {
        BagCarousel hall = Halls.filled(3, 20);
        hall.giveChute(0, 0);
        due("sweep", hall.sweep(3), 20);
        due("bagsIn", hall.bagsIn(3), 0);
        due("atDesk()", hall.atDesk(), 20);
        due("whereIs the first", hall.whereIs(0), Halls.DESK);
        due("chuteOf the last", hall.chuteOf(19), -1);
        due("sweep again", hall.sweep(3), 0);
    }

    @Sentence("Promise 9: all misrouted bags in it (of a flight with another chute and of a gone one, not the right ones)")
    static void sweepOfMixedBags() {
        BagCarousel hall = Halls.late();
        hall.giveChute(Halls.CHUTELESS_FLIGHT, 0);
        int right = Halls.bring(hall, Halls.CHUTELESS_FLIGHT);
        hall.giveChute(Halls.FLIGHT, 0);
        int moved = Halls.bring(hall, Halls.FLIGHT);
        hall.giveChute(Halls.FLIGHT, 1);
        due("bagsIn before", hall.bagsIn(0), 5);
        due("sweep", hall.sweep(0), 4);
        due("bagsIn", hall.bagsIn(0), 1);
        due("whereIs the right one", hall.whereIs(right), Halls.CHUTE);
        due("whereIs the one whose flight has another chute", hall.whereIs(moved), Halls.DESK);
        due("whereIs the one whose flight is gone", hall.whereIs(Halls.CHUTE_BAG), Halls.DESK);
    }

    @Sentence("Promise 9: all misrouted bags in it (those in another chute stay)")
    static void sweepOfOneChute() {
        BagCarousel hall = twoLateChutes();
        due("sweep(0)", hall.sweep(0), 1);
        due("whereIs the one in it", hall.whereIs(0), Halls.DESK);
        due("whereIs the one in the other", hall.whereIs(1), Halls.CHUTE);
    }

    @Sentence("Promise 9: all misrouted bags in it come to the desk (read and missed as they were)")
    static void sweepLeavesReadAndMissed() {
        BagCarousel hall = Halls.with(0);
        hall.carry(Halls.bringToDesk(hall, 0));
        Halls.bring(hall, 0);
        hall.giveChute(0, 1);
        due("sweep", hall.sweep(0), 2);
        due("missesOf the one that was missed", hall.missesOf(0), 3);
        due("readFor the one that was missed", hall.readFor(0), -1);
        due("readFor the one that was read", hall.readFor(1), 0);
    }

    @Sentence("Promise 9: open files of them are closed.")
    static void sweepClosesTheirFiles() {
        BagCarousel hall = twoLateChutes();
        due("openFiles() before", hall.openFiles(), 2);
        hall.sweep(0);
        due("hasOpenFile of the one in it", hall.hasOpenFile(0), false);
        due("hasOpenFile of the one in the other", hall.hasOpenFile(1), true);
        due("openFiles()", hall.openFiles(), 1);
        due("closedFiles()", hall.closedFiles(), 1);
    }

    /** Bags of a gone flight that came late: the bag 0 into the chute 0, the bag 1 into the chute 1. */
    private static BagCarousel twoLateChutes() {
        BagCarousel hall = Halls.with(0);
        hall.checkIn(0, 1, 0);
        hall.pass(3);
        hall.giveChute(0, 1);
        hall.checkIn(0, 1, 0);
        hall.depart(0);
        due("pass(7)", hall.pass(7), 2);
        return hall;
    }

    @Sentence("Promise 9: open files of them are closed (a bag without one gets none)")
    static void sweepWithoutFiles() {
        BagCarousel hall = Halls.filled(0, 1);
        hall.giveChute(0, 1);
        due("sweep", hall.sweep(0), 1);
        due("openFiles()", hall.openFiles(), 0);
        due("closedFiles()", hall.closedFiles(), 0);
    }

    @Sentence("Promise 9: Throws IndexOutOfBoundsException if there is no such chute")
    static void sweepOfNoChute() {
        for (int chute : new int[] {-1, 4}) {
            Check.refused(Halls::late, "sweep " + chute, Check.NO_SUCH, hall -> hall.sweep(chute));
        }
        for (int chute : Check.FAR_OFF) {
            Check.refused(Halls::late, "sweep " + chute, Check.NO_SUCH, hall -> hall.sweep(chute));
        }
    }

    // ---- promise 10

    @Sentence("Promise 10: Returns how many bags are loaded (a flight without bags)")
    static void departWithoutBags() {
        BagCarousel hall = Halls.with(-1, 0);
        hall.checkIn(1, 1, 0);
        due("depart without a chute", hall.depart(0), 0);
        due("openFiles()", hall.openFiles(), 0);
        due("isGone", hall.isGone(0), true);
    }

    @Sentence("Promise 10: bags of it that are in its chute are loaded (as many as there can be)")
    static void departWithTwenty() {
        BagCarousel hall = Halls.filled(3, 20);
        due("depart", hall.depart(0), 20);
        due("bagsIn", hall.bagsIn(3), 0);
        due("whereIs the first", hall.whereIs(0), Halls.LOADED);
        due("whereIs the last", hall.whereIs(19), Halls.LOADED);
        due("openFiles()", hall.openFiles(), 0);
    }

    @Sentence("Promise 10: bags of it (not those of another flight in the same chute)")
    static void departLeavesOthersBags() {
        BagCarousel hall = Halls.with(0, 0);
        Halls.bring(hall, 0);
        int other = Halls.bring(hall, 1);
        due("depart", hall.depart(0), 1);
        due("whereIs the other's", hall.whereIs(other), Halls.CHUTE);
        due("isMisrouted the other's", hall.isMisrouted(other), false);
        due("hasOpenFile of the other's", hall.hasOpenFile(other), false);
        due("isGone of the other", hall.isGone(1), false);
    }

    @Sentence("Promise 10: that are in its chute (not those in another)")
    static void departLeavesMisroutedBags() {
        BagCarousel hall = Halls.filled(0, 2);
        hall.giveChute(0, 3);
        Halls.bring(hall, 0);
        due("depart", hall.depart(0), 1);
        due("bagsIn(0)", hall.bagsIn(0), 2);
        due("hasOpenFile of a misrouted one", hall.hasOpenFile(0), true);
        due("hasOpenFile of the loaded one", hall.hasOpenFile(2), false);
    }

    @Sentence("Promise 10: for each other bag of it a tracing file is opened (wherever it is)")
    static void departOpensFilesEverywhere() {
        BagCarousel hall = Halls.busy();
        hall.giveChute(Halls.FLIGHT, 2);
        due("depart", hall.depart(Halls.FLIGHT), 0);
        for (int bag = 0; bag < 6; bag++) {
            due("hasOpenFile of " + bag, hall.hasOpenFile(bag), bag != Halls.LOADED_BAG);
        }
        due("openFiles()", hall.openFiles(), 5);
        due("whereIs the one in line", hall.whereIs(Halls.LINE_BAG), Halls.LINE);
        due("whereIs the one on the belt", hall.whereIs(Halls.BELT_BAG), Halls.BELT);
        due("whereIs the misrouted one", hall.whereIs(Halls.CHUTE_BAG), Halls.CHUTE);
        due("whereIs the one at the desk", hall.whereIs(Halls.DESK_BAG), Halls.DESK);
        due("whereIs the big one", hall.whereIs(Halls.BIG_BAG), Halls.BIG_ROOM);
    }

    @Sentence("Promise 10: for each other bag of it a tracing file is opened (as many as there can be)")
    static void departOpensFortyFiles() {
        BagCarousel hall = Halls.lined(40);
        due("depart", hall.depart(0), 0);
        due("openFiles()", hall.openFiles(), 40);
        due("hasOpenFile of the first", hall.hasOpenFile(0), true);
        due("hasOpenFile of the last", hall.hasOpenFile(39), true);
    }

    @Sentence("Promise 10: the flight is gone.")
    static void departedIsGone() {
        BagCarousel hall = Halls.with(0, 1, 2, 3, -1, -1);
        hall.depart(5);
        hall.depart(0);
        for (int flight = 0; flight < 6; flight++) {
            due("isGone of " + flight, hall.isGone(flight), flight == 0 || flight == 5);
        }
    }

    @Sentence("Promise 10: Throws IndexOutOfBoundsException if there is no such flight")
    static void departOfNoFlight() {
        Check.refused(BagCarousel::new, "depart(0) of none", Check.NO_SUCH, hall -> hall.depart(0));
        for (int flight : new int[] {-1, 3, 6}) {
            Check.refused(Halls::busy, "depart " + flight, Check.NO_SUCH, hall -> hall.depart(flight));
        }
        for (int flight : Check.FAR_OFF) {
            Check.refused(Halls::busy, "depart " + flight, Check.NO_SUCH, hall -> hall.depart(flight));
        }
    }

    @Sentence("Promise 10: Throws IllegalStateException if it is gone")
    static void departOfAGoneFlight() {
        Check.refused(Halls::late, "depart again", Check.NOT_NOW, hall -> hall.depart(Halls.GONE_FLIGHT));
        Supplier<BagCarousel> swept = () -> {
            BagCarousel hall = Halls.late();
            hall.sweep(0);
            return hall;
        };
        Check.refused(swept, "depart again with a closed file", Check.NOT_NOW, hall -> hall.depart(Halls.GONE_FLIGHT));
    }

    // ---- promise 11

    @Sentence("Promise 11: Lets minutes go by (the shortest time)")
    static void passOne() {
        BagCarousel hall = Halls.lined(2);
        due("pass(1)", hall.pass(1), 0);
        due("minute()", hall.minute(), 1);
        due("placeOf the first", hall.placeOf(0), 0);
        due("whereIs the second", hall.whereIs(1), Halls.LINE);
    }

    @Sentence("Promise 11: Lets minutes go by (the longest time)")
    static void passSixty() {
        BagCarousel hall = sixtyMinutes();
        due("pass(60)", hall.pass(60), 14);
        due("minute()", hall.minute(), 60);
        due("whereIs the one that came in the 60th", hall.whereIs(25), Halls.CHUTE);
        due("placeOf the next", hall.placeOf(26), 9);
        due("pass(1)", hall.pass(1), 1);
        BagCarousel byOnes = sixtyMinutes();
        for (int minute = 0; minute < 61; minute++) {
            byOnes.pass(1);
        }
        due("the digest", hall.digest(), byOnes.digest());
    }

    /** Twelve unread bags go round before 15 others, of which one comes into the chute 3 in the 60th minute. */
    private static BagCarousel sixtyMinutes() {
        BagCarousel hall = Halls.with(-1, 3);
        hall.setRoom(3, 20);
        Halls.checkIn(hall, 0, 12, 0);
        Halls.checkIn(hall, 1, 15, 0);
        return hall;
    }

    @Sentence("Promise 11: Returns how many bags came into chutes in them (none, and none again)")
    static void noneCame() {
        due("pass(60) of an empty hall", new BagCarousel().pass(60), 0);
        BagCarousel hall = Halls.filled(0, 20);
        due("pass(60) with bags in chutes before", hall.pass(60), 0);
    }

    @Sentence("Promise 11: Returns how many bags came into chutes in them (the most in one minute)")
    static void fourCameInOneMinute() {
        BagCarousel hall = EdgesOfTermsTest.beforeAllChutes();
        due("pass(1)", hall.pass(1), 4);
        due("pass(1) behind it", hall.pass(1), 0);
    }

    @Sentence("Promise 11: Returns how many bags came into chutes in them (all there can be)")
    static void fortyCame() {
        BagCarousel hall = Halls.with(0, 3);
        hall.setRoom(0, 20);
        hall.setRoom(3, 20);
        Halls.checkIn(hall, 0, 20, 5);
        Halls.checkIn(hall, 1, 20, 5);
        due("pass(60)", hall.pass(60), 40);
        due("onBelt()", hall.onBelt(), 0);
    }

    @Sentence("Promise 11: Returns how many bags came into chutes in them (carried ones did not)")
    static void carriedDidNotCome() {
        BagCarousel hall = Halls.with(0);
        hall.carry(hall.checkIn(0, 9, 0));
        hall.checkIn(0, 1, 0);
        due("pass(5)", hall.pass(5), 1);
    }

    @Sentence("Promise 11: Throws IllegalArgumentException if minutes is not 1 to 60")
    static void noSuchMinutes() {
        due("pass(1)", Halls.busy().pass(1), 0);
        due("pass(60)", Halls.busy().pass(60), 2);
        for (int minutes : new int[] {0, -1, 61}) {
            Check.refused(Halls::busy, "pass " + minutes, Check.WRONG, hall -> hall.pass(minutes));
        }
        for (int minutes : Check.FAR_OFF) {
            Check.refused(Halls::busy, "pass " + minutes, Check.WRONG, hall -> hall.pass(minutes));
        }
    }
}
