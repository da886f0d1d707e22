/** Halls that the tests begin with, and ways to bring bags somewhere. */
final class Halls {
    static final int LINE = 0;
    static final int BELT = 1;
    static final int CHUTE = 2;
    static final int DESK = 3;
    static final int BIG_ROOM = 4;
    static final int LOADED = 5;

    /** Bags of busy() and late(), by where they are. */
    static final int LOADED_BAG = 0;
    static final int DESK_BAG = 1;
    static final int CHUTE_BAG = 2;
    static final int BIG_BAG = 3;
    static final int BELT_BAG = 4;
    static final int LINE_BAG = 5;

    /** Flights of busy() and late(). */
    static final int GONE_FLIGHT = 0;
    static final int FLIGHT = 1;
    static final int CHUTELESS_FLIGHT = 2;

    private Halls() {
    }

    /** A hall with flights 0, 1, ..; the flight f has the f-th of these chutes, -1 for none. */
    static BagCarousel with(int... chutes) {
        BagCarousel hall = new BagCarousel();
        for (int chute : chutes) {
            int flight = hall.addFlight();
            if (chute >= 0) {
                hall.giveChute(flight, chute);
            }
        }
        return hall;
    }

    /** Checks in bags of the size 1. */
    static void checkIn(BagCarousel hall, int flight, int count, int smudge) {
        for (int bag = 0; bag < count; bag++) {
            hall.checkIn(flight, 1, smudge);
        }
    }

    /** A hall of one flight without a chute and so many bags in line. */
    static BagCarousel lined(int bags) {
        BagCarousel hall = with(-1);
        checkIn(hall, 0, bags, 0);
        return hall;
    }

    /** A hall of one flight with this chute and so many bags in it, at most 20; it has room for 20. */
    static BagCarousel filled(int chute, int bags) {
        BagCarousel hall = with(chute);
        hall.setRoom(chute, 20);
        fill(hall, 0, bags);
        return hall;
    }

    /** Lets so many bags come into the chute of their flight. */
    static void fill(BagCarousel hall, int flight, int count) {
        int chute = hall.chuteOfFlight(flight);
        int before = hall.bagsIn(chute);
        checkIn(hall, flight, count, 0);
        hall.pass(count + 10);
        Check.due("so many bags came into the chute", hall.bagsIn(chute) - before, count);
    }

    /** Lets a bag with a tag that is easily read come into the chute of its flight. */
    static int bring(BagCarousel hall, int flight) {
        int bag = hall.checkIn(flight, 1, 0);
        hall.pass(11);
        Check.due("the bag that was brought is in its chute", hall.chuteOf(bag), hall.chuteOfFlight(flight));
        return bag;
    }

    /** Lets a bag be missed three times. */
    static int bringToDesk(BagCarousel hall, int flight) {
        int bag = hall.checkIn(flight, 1, 9);
        hall.pass(27);
        Check.due("the bag that was missed is at the desk", hall.whereIs(bag), DESK);
        return bag;
    }

    /** A bag everywhere: one loaded, of the flight 0 that is gone, the others of the flight 1 with the chute 1. */
    static BagCarousel busy() {
        BagCarousel hall = with(0, 1, -1);
        bring(hall, GONE_FLIGHT);
        hall.depart(GONE_FLIGHT);
        bringToDesk(hall, FLIGHT);
        bring(hall, FLIGHT);
        hall.checkIn(FLIGHT, 9, 0);
        hall.checkIn(FLIGHT, 1, 0);
        hall.pass(1);
        hall.checkIn(FLIGHT, 1, 0);
        return hall;
    }

    /** A bag everywhere, all of the flight 0 with the chute 0 that is gone; one came into it behind its flight. */
    static BagCarousel late() {
        BagCarousel hall = with(0, 1, -1);
        bring(hall, GONE_FLIGHT);
        bringToDesk(hall, GONE_FLIGHT);
        int late = hall.checkIn(GONE_FLIGHT, 1, 0);
        hall.checkIn(GONE_FLIGHT, 9, 0);
        hall.pass(4);
        hall.checkIn(GONE_FLIGHT, 1, 0);
        hall.checkIn(GONE_FLIGHT, 1, 0);
        hall.depart(GONE_FLIGHT);
        hall.pass(1);
        Check.due("one came late", hall.whereIs(late), CHUTE);
        return hall;
    }
}
