/** For each promise of the document what it says: ordinary calls, the edges, and wrong ones. */
public final class PromisesTest {
    private static final Class<IndexOutOfBoundsException> NO_SUCH = Check.NO_SUCH;
    private static final Class<IllegalArgumentException> WRONG = Check.WRONG;
    private static final Class<IllegalStateException> NOT_NOW = Check.NOT_NOW;

    private static final int LINE = Halls.LINE;
    private static final int BELT = Halls.BELT;
    private static final int CHUTE = Halls.CHUTE;
    private static final int DESK = Halls.DESK;
    private static final int BIG_ROOM = Halls.BIG_ROOM;
    private static final int LOADED = Halls.LOADED;

    private static final int[] NO_NUMBERS = {-1, Integer.MIN_VALUE, Integer.MAX_VALUE};
    private static final int[] NO_CHUTES = {-1, 4, 5, Integer.MIN_VALUE, Integer.MAX_VALUE};
    private static final int[] NO_MINUTES = {0, -1, 61, Integer.MIN_VALUE, Integer.MAX_VALUE};

    public static void main(String[] args) {
        promise1();
        promise2();
        promise3();
        promise3ReadAndMisrouted();
        promise4();
        promise5();
        promise6();
        promise6Full();
        promise7();
        promise7Refused();
        promise8();
        promise8Refused();
        promise9();
        promise10();
        promise10Files();
        promise11();
        promise11Reader();
        promise11Ring();
        promise11Chutes();
        promises12To19();
        promises12To19NoSuchBag();
        promise18();
        promise19();
        promise20();
        promises21To23();
        promises24And25();
        promises26And27();
        promises28To36();
        promise37();
        promise38();
        promise39();
        promise40();
        promise41();
        Check.finish();
    }

    private static void due(String call, Object got, Object want) {
        Check.due(call, got, want);
    }

    private static void promise1() {
        BagCarousel hall = new BagCarousel();
        due("new minute", hall.minute(), 0);
        due("new flights", hall.flights(), 0);
        due("new bags", hall.bags(), 0);
        due("new inLine", hall.inLine(), 0);
        due("new onBelt", hall.onBelt(), 0);
        due("new atDesk", hall.atDesk(), 0);
        due("new openFiles", hall.openFiles(), 0);
        due("new closedFiles", hall.closedFiles(), 0);
        due("new reader", hall.reader(), 5);
        due("new meanMisses", hall.meanMisses(), 0.0);
        for (int chute = 0; chute < 4; chute++) {
            due("new roomOf " + chute, hall.roomOf(chute), 5);
            due("new bagsIn " + chute, hall.bagsIn(chute), 0);
            due("new misroutedIn " + chute, hall.misroutedIn(chute), 0);
        }
        for (int place = 0; place < 12; place++) {
            due("new bagAt " + place, hall.bagAt(place), -1);
        }
        BagCarousel other = Halls.with(1);
        other.setReader(9);
        other.setRoom(2, 7);
        other.checkIn(0, 1, 1);
        other.pass(3);
        due("another object leaves this one alone", Check.look(hall), Check.look(new BagCarousel()));
    }

    private static void promise2() {
        BagCarousel hall = new BagCarousel();
        for (int flight = 0; flight < 6; flight++) {
            due("addFlight", hall.addFlight(), flight);
            due("flights then", hall.flights(), flight + 1);
            due("its chute", hall.chuteOfFlight(flight), -1);
            due("it is gone", hall.isGone(flight), false);
        }
        Check.dueThrow(hall, "a 7th addFlight", NOT_NOW, () -> hall.addFlight());
        hall.depart(0);
        Check.dueThrow(hall, "addFlight with a gone one", NOT_NOW, () -> hall.addFlight());
    }

    private static void promise3() {
        BagCarousel hall = Halls.with(-1, -1);
        due("giveChute 0 0", hall.giveChute(0, 0), 0);
        due("giveChute 1 3", hall.giveChute(1, 3), 0);
        due("giveChute 1 0, which another has", hall.giveChute(1, 0), 0);
        due("chute of 0", hall.chuteOfFlight(0), 0);
        due("chute of 1", hall.chuteOfFlight(1), 0);
        hall.depart(1);
        for (int chute : NO_CHUTES) {
            Check.dueThrow(hall, "giveChute 0 " + chute, NO_SUCH, () -> hall.giveChute(0, chute));
            Check.dueThrow(hall, "giveChute gone " + chute, NO_SUCH, () -> hall.giveChute(1, chute));
        }
        for (int flight : new int[] {-1, 2, Integer.MIN_VALUE, Integer.MAX_VALUE}) {
            Check.dueThrow(hall, "giveChute " + flight, NO_SUCH, () -> hall.giveChute(flight, 0));
        }
        Check.dueThrow(hall, "giveChute of a gone one", NOT_NOW, () -> hall.giveChute(1, 2));
        Check.dueThrow(hall, "giveChute of a gone one, the same", NOT_NOW, () -> hall.giveChute(1, 0));
    }

    private static void promise3ReadAndMisrouted() {
        BagCarousel hall = Halls.with(1, 1);
        int first = Halls.bring(hall, 0);
        Halls.bring(hall, 1);
        due("giveChute to the same chute", hall.giveChute(0, 1), 0);
        due("giveChute away from a bag", hall.giveChute(0, 0), 1);
        due("misrouted is only the bag of this flight", hall.misroutedIn(1), 1);
        due("giveChute, when the bag was misrouted before", hall.giveChute(0, 2), 0);
        hall.giveChute(0, 0);
        int second = Halls.bring(hall, 0);
        due("giveChute puts one right and misroutes one", hall.giveChute(0, 1), 1);
        due("the first is right again", hall.isMisrouted(first), false);
        due("the second is misrouted", hall.isMisrouted(second), true);

        BagCarousel read = Halls.with(0);
        int bag = read.checkIn(0, 2, 2);
        read.pass(3);
        due("read for 0", read.readFor(bag), 0);
        due("giveChute with a bag on the belt", read.giveChute(0, 3), 0);
        due("what has been read stays", read.readFor(bag), 0);
        read.pass(2);
        due("it comes into the chute for which it was read", read.chuteOf(bag), 0);
        due("and is misrouted", read.isMisrouted(bag), true);

        BagCarousel loaded = Halls.with(2, 2);
        Halls.bring(loaded, 0);
        loaded.depart(0);
        due("giveChute does not count loaded bags", loaded.giveChute(1, 0), 0);
    }

    private static void promise4() {
        BagCarousel hall = Halls.with(0);
        due("setReader 0", hall.setReader(0), 5);
        due("setReader 9", hall.setReader(9), 0);
        due("setReader 4", hall.setReader(4), 9);
        for (int strength : new int[] {-1, 10, Integer.MIN_VALUE, Integer.MAX_VALUE}) {
            Check.dueThrow(hall, "setReader " + strength, WRONG, () -> hall.setReader(strength));
        }
        due("reader", hall.reader(), 4);
        int read = hall.checkIn(0, 1, 4);
        int missed = hall.checkIn(0, 1, 5);
        hall.pass(4);
        due("a smudge of the strength is read", hall.readFor(read), 0);
        due("one of more is missed", hall.missesOf(missed), 1);
        hall.setReader(5);
        hall.pass(12);
        due("the new strength reads it", hall.readFor(missed), 0);
    }

    private static void promise5() {
        BagCarousel hall = Halls.with(0);
        due("setRoom 0 1", hall.setRoom(0, 1), 5);
        due("setRoom 0 20", hall.setRoom(0, 20), 1);
        due("setRoom 3 2", hall.setRoom(3, 2), 5);
        due("room of 0", hall.roomOf(0), 20);
        due("room of 1 stays", hall.roomOf(1), 5);
        for (int room : new int[] {0, -1, 21, Integer.MIN_VALUE, Integer.MAX_VALUE}) {
            Check.dueThrow(hall, "setRoom 0 " + room, WRONG, () -> hall.setRoom(0, room));
        }
        for (int chute : NO_CHUTES) {
            Check.dueThrow(hall, "setRoom " + chute, NO_SUCH, () -> hall.setRoom(chute, 5));
            Check.dueThrow(hall, "setRoom " + chute + " 0", NO_SUCH, () -> hall.setRoom(chute, 0));
        }
        Halls.bring(hall, 0);
        Halls.bring(hall, 0);
        due("setRoom to less than there is", hall.setRoom(0, 1), 20);
        due("the bags stay", hall.bagsIn(0), 2);
        int late = hall.checkIn(0, 1, 0);
        due("no bag comes in", hall.pass(30), 0);
        due("the late one goes round", hall.whereIs(late), BELT);
        hall.setRoom(0, 3);
        due("with room again it comes in", hall.pass(12), 1);
    }

    private static void promise6() {
        BagCarousel hall = Halls.with(0, -1);
        due("checkIn", hall.checkIn(0, 7, 0), 0);
        due("checkIn", hall.checkIn(1, 8, 9), 1);
        due("checkIn", hall.checkIn(1, 1, 9), 2);
        due("checkIn", hall.checkIn(0, 9, 0), 3);
        due("a bag of size 7 is in line", hall.whereIs(0), LINE);
        due("one of size 8 is in the room for big ones", hall.whereIs(1), BIG_ROOM);
        due("one of size 1 is in line", hall.whereIs(2), LINE);
        due("one of size 9 is in the room for big ones", hall.whereIs(3), BIG_ROOM);
        due("inLine", hall.inLine(), 2);
        due("bags", hall.bags(), 4);
        due("its flight", hall.flightOf(2), 1);
        due("read for", hall.readFor(0), -1);
        due("misses", hall.missesOf(0), 0);
        hall.pass(1);
        due("the first in line goes first", hall.bagAt(0), 0);
        hall.pass(1);
        due("the end of the line goes next", hall.bagAt(0), 2);

        hall.depart(1);
        for (int flight : new int[] {-1, 2, 6, Integer.MIN_VALUE, Integer.MAX_VALUE}) {
            Check.dueThrow(hall, "checkIn " + flight, NO_SUCH, () -> hall.checkIn(flight, 1, 1));
            Check.dueThrow(hall, "checkIn wrong in all", NO_SUCH, () -> hall.checkIn(flight, 0, 10));
        }
        for (int size : new int[] {0, 10, -1, Integer.MIN_VALUE, Integer.MAX_VALUE}) {
            Check.dueThrow(hall, "checkIn of size " + size, WRONG, () -> hall.checkIn(0, size, 1));
            Check.dueThrow(hall, "checkIn for a gone one of size " + size, WRONG, () -> hall.checkIn(1, size, 1));
        }
        for (int smudge : new int[] {-1, 10, Integer.MIN_VALUE, Integer.MAX_VALUE}) {
            Check.dueThrow(hall, "checkIn with smudge " + smudge, WRONG, () -> hall.checkIn(0, 1, smudge));
            Check.dueThrow(hall, "checkIn for a gone one, smudge " + smudge, WRONG, () -> hall.checkIn(1, 1, smudge));
        }
        Check.dueThrow(hall, "checkIn for a gone one", NOT_NOW, () -> hall.checkIn(1, 1, 1));
    }

    private static void promise6Full() {
        BagCarousel hall = Halls.with(0);
        for (int bag = 0; bag < 40; bag++) {
            due("checkIn", hall.checkIn(0, 1, 0), bag);
        }
        due("inLine", hall.inLine(), 40);
        Check.dueThrow(hall, "a 41st checkIn", NOT_NOW, () -> hall.checkIn(0, 1, 0));
        Check.dueThrow(hall, "a 41st checkIn of a big one", NOT_NOW, () -> hall.checkIn(0, 9, 0));
        Check.dueThrow(hall, "a 41st checkIn of a wrong size", WRONG, () -> hall.checkIn(0, 0, 0));
        Check.dueThrow(hall, "a 41st checkIn for no flight", NO_SUCH, () -> hall.checkIn(1, 1, 0));
        hall.setRoom(0, 20);
        due("20 of the 40 find room", hall.pass(60), 20);
        due("12 are on the belt", hall.onBelt(), 12);
        due("8 are in line", hall.inLine(), 8);
    }

    private static void promise7() {
        BagCarousel hall = Halls.with(2);
        int big = hall.checkIn(0, 9, 3);
        due("carry of a big one", hall.carry(big), 2);
        due("it is in a chute", hall.whereIs(big), CHUTE);
        due("in this one", hall.chuteOf(big), 2);
        due("it has not been read", hall.readFor(big), -1);
        due("it is not misrouted", hall.isMisrouted(big), false);
        int missed = Halls.bringToDesk(hall, 0);
        due("carry from the desk", hall.carry(missed), 2);
        due("no one is at the desk", hall.atDesk(), 0);
        due("its misses stay", hall.missesOf(missed), 3);
        due("the bags are ready", hall.readyOf(0), 2);

        BagCarousel swept = Halls.with(1);
        int bag = Halls.bring(swept, 0);
        swept.giveChute(0, 3);
        swept.sweep(1);
        due("carry of a swept one", swept.carry(bag), 3);
        due("what has been read stays", swept.readFor(bag), 1);
        due("misrouted", swept.isMisrouted(bag), false);
    }

    private static void promise7Refused() {
        BagCarousel hall = Halls.with(0, -1);
        Check.dueThrow(hall, "carry of no bag", NO_SUCH, () -> hall.carry(0));
        int line = hall.checkIn(0, 1, 0);
        Check.dueThrow(hall, "carry from the line", NOT_NOW, () -> hall.carry(line));
        hall.pass(1);
        Check.dueThrow(hall, "carry from the belt", NOT_NOW, () -> hall.carry(line));
        hall.pass(10);
        Check.dueThrow(hall, "carry from a chute", NOT_NOW, () -> hall.carry(line));
        hall.giveChute(0, 1);
        Check.dueThrow(hall, "carry from a wrong chute", NOT_NOW, () -> hall.carry(line));
        hall.giveChute(0, 0);
        int homeless = hall.checkIn(1, 8, 0);
        Check.dueThrow(hall, "carry without a chute", NOT_NOW, () -> hall.carry(homeless));
        hall.setRoom(0, 1);
        int second = hall.checkIn(0, 8, 0);
        Check.dueThrow(hall, "carry into a full chute", NOT_NOW, () -> hall.carry(second));
        hall.setRoom(0, 2);
        due("carry into the last room", hall.carry(second), 0);
        int third = hall.checkIn(0, 8, 0);
        hall.depart(0);
        Check.dueThrow(hall, "carry of a loaded one", NOT_NOW, () -> hall.carry(second));
        Check.dueThrow(hall, "carry for a gone flight", NOT_NOW, () -> hall.carry(third));
        for (int bag : NO_NUMBERS) {
            Check.dueThrow(hall, "carry " + bag, NO_SUCH, () -> hall.carry(bag));
        }
        Check.dueThrow(hall, "carry of the next number", NO_SUCH, () -> hall.carry(4));
    }

    private static void promise8() {
        BagCarousel hall = Halls.with(0, 1, 2);
        int missed = Halls.bringToDesk(hall, 0);
        int big = hall.checkIn(0, 8, 0);
        int swept = Halls.bring(hall, 0);
        hall.giveChute(0, 3);
        hall.sweep(0);
        hall.depart(0);
        due("all three have open files", hall.openFiles(), 3);
        int waiting = hall.checkIn(1, 1, 0);
        due("forward of the missed one", hall.forward(missed, 1), 2);
        due("its flight", hall.flightOf(missed), 1);
        due("it is in line", hall.whereIs(missed), LINE);
        due("it has no misses", hall.missesOf(missed), 0);
        due("its file is not open", hall.hasOpenFile(missed), false);
        due("but closed", hall.closedFiles(), 1);
        due("forward of the big one", hall.forward(big, 2), 2);
        due("it is in the room for big ones", hall.whereIs(big), BIG_ROOM);
        due("its flight", hall.flightOf(big), 2);
        due("read for, before", hall.readFor(swept), 0);
        due("forward of the swept one", hall.forward(swept, 2), 3);
        due("it has not been read", hall.readFor(swept), -1);
        due("no file is open", hall.openFiles(), 0);
        due("three are closed", hall.closedFiles(), 3);
        hall.pass(1);
        due("the first in line", hall.bagAt(0), waiting);
        hall.pass(1);
        due("the second", hall.bagAt(0), missed);
        hall.pass(1);
        due("the third", hall.bagAt(0), swept);
        hall.pass(8);
        due("the swept one is in the chute of its new flight", hall.chuteOf(swept), 2);
    }

    private static void promise8Refused() {
        BagCarousel hall = Halls.with(0, 1, 2);
        int big = hall.checkIn(0, 8, 0);
        int line = hall.checkIn(0, 1, 9);
        Check.dueThrow(hall, "forward of a flight that is not gone", NOT_NOW, () -> hall.forward(big, 1));
        hall.depart(0);
        hall.depart(2);
        Check.dueThrow(hall, "forward to a gone one", NOT_NOW, () -> hall.forward(big, 2));
        Check.dueThrow(hall, "forward to its own", NOT_NOW, () -> hall.forward(big, 0));
        Check.dueThrow(hall, "forward from the line", NOT_NOW, () -> hall.forward(line, 1));
        hall.pass(1);
        Check.dueThrow(hall, "forward from the belt", NOT_NOW, () -> hall.forward(line, 1));
        hall.setReader(9);
        hall.pass(4);
        Check.dueThrow(hall, "forward from a chute", NOT_NOW, () -> hall.forward(line, 1));
        int loaded = Halls.bring(hall, 1);
        hall.addFlight();
        hall.depart(1);
        Check.dueThrow(hall, "forward of a loaded one", NOT_NOW, () -> hall.forward(loaded, 3));
        for (int flight : new int[] {-1, 4, Integer.MIN_VALUE, Integer.MAX_VALUE}) {
            Check.dueThrow(hall, "forward to " + flight, NO_SUCH, () -> hall.forward(big, flight));
            Check.dueThrow(hall, "forward of a loaded one to " + flight, NO_SUCH, () -> hall.forward(loaded, flight));
        }
        for (int bag : new int[] {-1, 3, Integer.MIN_VALUE, Integer.MAX_VALUE}) {
            Check.dueThrow(hall, "forward of " + bag, NO_SUCH, () -> hall.forward(bag, 3));
            Check.dueThrow(hall, "forward of " + bag + " to a gone one", NO_SUCH, () -> hall.forward(bag, 0));
        }
        due("forward, when the line is empty and the bag big", hall.forward(big, 3), 0);
    }

    private static void promise9() {
        BagCarousel hall = Halls.with(0, 0, 0);
        int moved = Halls.bring(hall, 0);
        int right = Halls.bring(hall, 1);
        int late = hall.checkIn(2, 1, 0);
        hall.pass(3);
        hall.depart(2);
        due("the late one has a file", hall.hasOpenFile(late), true);
        hall.pass(2);
        due("and comes into the chute all the same", hall.chuteOf(late), 0);
        hall.giveChute(0, 1);
        due("sweep of another chute", hall.sweep(1), 0);
        due("sweep", hall.sweep(0), 2);
        due("the moved one is at the desk", hall.whereIs(moved), DESK);
        due("in no chute", hall.chuteOf(moved), -1);
        due("the late one is at the desk", hall.whereIs(late), DESK);
        due("its file is closed", hall.hasOpenFile(late), false);
        due("one file is closed, that of the moved one was never opened", hall.closedFiles(), 1);
        due("the right one stays", hall.chuteOf(right), 0);
        due("what has been read stays", hall.readFor(moved), 0);
        due("atDesk", hall.atDesk(), 2);
        due("bagsIn", hall.bagsIn(0), 1);
        due("sweep again", hall.sweep(0), 0);
        for (int chute : NO_CHUTES) {
            Check.dueThrow(hall, "sweep " + chute, NO_SUCH, () -> hall.sweep(chute));
        }
    }

    private static void promise10() {
        BagCarousel hall = Halls.with(0, 0, -1);
        int first = Halls.bring(hall, 0);
        int second = Halls.bring(hall, 0);
        int other = Halls.bring(hall, 1);
        due("depart", hall.depart(0), 2);
        due("it is gone", hall.isGone(0), true);
        due("the first is loaded", hall.whereIs(first), LOADED);
        due("the second is loaded", hall.whereIs(second), LOADED);
        due("in no chute", hall.chuteOf(first), -1);
        due("the other's is not", hall.whereIs(other), CHUTE);
        due("the other flight is not gone", hall.isGone(1), false);
        due("bagsIn", hall.bagsIn(0), 1);
        due("no files", hall.openFiles() + hall.closedFiles(), 0);
        hall.checkIn(2, 1, 0);
        due("depart without a chute", hall.depart(2), 0);
        due("a file for its bag", hall.openFiles(), 1);
        Check.dueThrow(hall, "depart again", NOT_NOW, () -> hall.depart(0));
        for (int flight : new int[] {-1, 3, 6, Integer.MIN_VALUE, Integer.MAX_VALUE}) {
            Check.dueThrow(hall, "depart " + flight, NO_SUCH, () -> hall.depart(flight));
        }
    }

    private static void promise10Files() {
        BagCarousel hall = Halls.with(0, 3);
        int strayed = Halls.bring(hall, 0);
        hall.giveChute(0, 1);
        int desk = Halls.bringToDesk(hall, 0);
        int big = hall.checkIn(0, 8, 0);
        int belt = hall.checkIn(0, 1, 9);
        hall.pass(1);
        int line = hall.checkIn(0, 1, 0);
        int others = hall.checkIn(1, 1, 0);
        due("depart with no bag there", hall.depart(0), 0);
        for (int bag : new int[] {strayed, desk, big, belt, line}) {
            due("an open file for " + bag, hall.hasOpenFile(bag), true);
        }
        due("none for the other flight's", hall.hasOpenFile(others), false);
        due("openFiles", hall.openFiles(), 5);
        due("the bags stay where they are", hall.whereIs(strayed), CHUTE);
        hall.forward(desk, 1);
        due("a closed file", hall.closedFiles(), 1);
        due("depart of the new flight", hall.depart(1), 0);
        due("the closed file is open again", hall.hasOpenFile(desk), true);
        due("none is closed", hall.closedFiles(), 0);
        due("openFiles, with the other's", hall.openFiles(), 6);
    }

    private static void promise11() {
        BagCarousel hall = Halls.with(0, 3);
        int first = hall.checkIn(0, 1, 5);
        int second = hall.checkIn(1, 1, 0);
        due("pass 1", hall.pass(1), 0);
        due("minute", hall.minute(), 1);
        due("the first is at place 0", hall.placeOf(first), 0);
        due("the second is in line", hall.whereIs(second), LINE);
        hall.pass(2);
        due("the first is at the reader", hall.placeOf(first), 2);
        due("and has been read in the same minute", hall.readFor(first), 0);
        due("the second has not", hall.readFor(second), -1);
        due("pass to the chute", hall.pass(2), 1);
        due("the first is in its chute in the minute of its coming", hall.chuteOf(first), 0);
        due("the second goes on", hall.placeOf(second), 3);
        due("pass 6", hall.pass(6), 0);
        due("pass 1 more", hall.pass(1), 1);
        due("the second is in its chute", hall.chuteOf(second), 3);
        due("minute", hall.minute(), 12);
        due("pass of an empty belt", hall.pass(60), 0);
        due("minute", hall.minute(), 72);
        for (int minutes : NO_MINUTES) {
            Check.dueThrow(hall, "pass " + minutes, WRONG, () -> hall.pass(minutes));
        }
        BagCarousel many = Halls.with(1, 2);
        many.checkIn(1, 1, 0);
        many.pass(1);
        many.checkIn(0, 1, 0);
        many.checkIn(0, 1, 0);
        due("pass counts all that came into chutes", many.pass(20), 3);
    }

    private static void promise11Reader() {
        BagCarousel hall = Halls.with(-1);
        int clear = hall.checkIn(0, 1, 0);
        hall.pass(3);
        due("without a chute of its flight a bag is missed", hall.missesOf(clear), 1);
        due("and not read", hall.readFor(clear), -1);
        hall.giveChute(0, 1);
        hall.pass(12);
        due("with one it is read", hall.readFor(clear), 1);
        due("its misses stay", hall.missesOf(clear), 1);

        BagCarousel smudged = Halls.with(0);
        int bag = smudged.checkIn(0, 1, 6);
        smudged.pass(14);
        due("missed once", smudged.missesOf(bag), 1);
        smudged.pass(12);
        due("missed twice", smudged.missesOf(bag), 2);
        due("still on the belt", smudged.whereIs(bag), BELT);
        smudged.pass(1);
        due("missed three times", smudged.missesOf(bag), 3);
        due("at the desk in this minute", smudged.whereIs(bag), DESK);
        due("not on the belt", smudged.bagAt(2), -1);
        smudged.pass(60);
        due("no more misses at the desk", smudged.missesOf(bag), 3);

        BagCarousel gone = Halls.with(2);
        int late = gone.checkIn(0, 1, 0);
        gone.depart(0);
        due("a bag of a gone flight is read and comes into its chute", gone.pass(9), 1);
        due("there it is misrouted", gone.isMisrouted(late), true);
        due("its file is still open", gone.hasOpenFile(late), true);
    }

    private static void promise11Ring() {
        BagCarousel hall = Halls.with(0);
        hall.setRoom(0, 1);
        int inside = hall.checkIn(0, 1, 0);
        int round = hall.checkIn(0, 1, 0);
        hall.pass(13);
        due("one is in the chute", hall.whereIs(inside), CHUTE);
        due("the other at the last place", hall.placeOf(round), 11);
        int waiting = hall.checkIn(0, 1, 0);
        hall.pass(1);
        due("it comes from 11 to 0", hall.placeOf(round), 0);
        due("so the one in line waits", hall.whereIs(waiting), LINE);
        hall.pass(2);
        due("a read bag is not read again", hall.missesOf(round), 0);
        due("the waiting one came as the place was free", hall.placeOf(waiting), 1);
        hall.setReader(0);
        hall.giveChute(0, 3);
        hall.pass(12);
        due("what was read stays when it goes round", hall.readFor(round), 0);

        BagCarousel desk = Halls.with(-1);
        for (int bag = 0; bag < 13; bag++) {
            desk.checkIn(0, 1, 0);
        }
        desk.pass(26);
        due("the belt is full", desk.onBelt(), 12);
        due("one waits", desk.whereIs(12), LINE);
        desk.pass(1);
        due("the first is at the desk", desk.whereIs(0), DESK);
        due("its place is empty", desk.bagAt(2), -1);
        desk.pass(9);
        due("the empty place is at 11", desk.bagAt(11), -1);
        desk.pass(1);
        due("the empty place at 0 is taken at once", desk.bagAt(0), 12);
    }

    private static void promise11Chutes() {
        BagCarousel hall = Halls.with(0, 1, 2, 3);
        hall.checkIn(3, 1, 0);
        hall.pass(2);
        hall.checkIn(2, 1, 0);
        hall.pass(2);
        hall.checkIn(1, 1, 0);
        hall.pass(2);
        hall.checkIn(0, 1, 0);
        due("nothing yet", hall.pass(4), 0);
        due("four in one minute", hall.pass(1), 4);
        for (int chute = 0; chute < 4; chute++) {
            due("in chute " + chute, hall.chuteOf(3 - chute), chute);
        }

        BagCarousel full = Halls.with(1);
        for (int bag = 0; bag < 6; bag++) {
            full.checkIn(0, 1, 0);
        }
        due("five have room", full.pass(30), 5);
        due("the sixth goes round", full.whereIs(5), BELT);
        full.depart(0);
        due("when there is room it comes", full.pass(12), 1);
        due("to its chute", full.chuteOf(5), 1);
    }

    private static void promises12To19() {
        BagCarousel hall = Halls.with(1, 2);
        int bag = hall.checkIn(1, 4, 3);
        due("flightOf", hall.flightOf(bag), 1);
        due("whereIs in line", hall.whereIs(bag), LINE);
        due("placeOf in line", hall.placeOf(bag), -1);
        due("chuteOf in line", hall.chuteOf(bag), -1);
        due("readFor in line", hall.readFor(bag), -1);
        due("missesOf in line", hall.missesOf(bag), 0);
        due("isMisrouted in line", hall.isMisrouted(bag), false);
        due("hasOpenFile in line", hall.hasOpenFile(bag), false);
        for (int place = 0; place < 8; place++) {
            hall.pass(1);
            due("whereIs on the belt", hall.whereIs(bag), BELT);
            due("placeOf on the belt", hall.placeOf(bag), place);
            due("chuteOf on the belt", hall.chuteOf(bag), -1);
            due("readFor on the belt", hall.readFor(bag), place < 2 ? -1 : 2);
        }
        hall.pass(1);
        due("whereIs in the chute", hall.whereIs(bag), CHUTE);
        due("placeOf in the chute", hall.placeOf(bag), -1);
        due("chuteOf in the chute", hall.chuteOf(bag), 2);
        due("readFor in the chute", hall.readFor(bag), 2);
        due("missesOf in the chute", hall.missesOf(bag), 0);
        hall.depart(1);
        due("whereIs loaded", hall.whereIs(bag), LOADED);
        due("placeOf loaded", hall.placeOf(bag), -1);
        due("chuteOf loaded", hall.chuteOf(bag), -1);
        due("readFor loaded", hall.readFor(bag), 2);
        due("flightOf loaded", hall.flightOf(bag), 1);
        int missed = Halls.bringToDesk(hall, 0);
        due("missesOf at the desk", hall.missesOf(missed), 3);
        due("placeOf at the desk", hall.placeOf(missed), -1);
        due("chuteOf at the desk", hall.chuteOf(missed), -1);
        due("readFor at the desk", hall.readFor(missed), -1);
        due("whereIs in the room for big ones", hall.whereIs(hall.checkIn(0, 9, 0)), BIG_ROOM);
    }

    private static void promises12To19NoSuchBag() {
        noSuchBag(new BagCarousel(), 0);
        BagCarousel hall = Halls.with(0);
        hall.checkIn(0, 1, 0);
        hall.checkIn(0, 1, 0);
        noSuchBag(hall, 2);
        noSuchBag(hall, 40);
        for (int bag : NO_NUMBERS) {
            noSuchBag(hall, bag);
        }
    }

    private static void noSuchBag(BagCarousel hall, int bag) {
        Check.dueThrow(hall, "flightOf " + bag, NO_SUCH, () -> hall.flightOf(bag));
        Check.dueThrow(hall, "whereIs " + bag, NO_SUCH, () -> hall.whereIs(bag));
        Check.dueThrow(hall, "placeOf " + bag, NO_SUCH, () -> hall.placeOf(bag));
        Check.dueThrow(hall, "chuteOf " + bag, NO_SUCH, () -> hall.chuteOf(bag));
        Check.dueThrow(hall, "readFor " + bag, NO_SUCH, () -> hall.readFor(bag));
        Check.dueThrow(hall, "missesOf " + bag, NO_SUCH, () -> hall.missesOf(bag));
        Check.dueThrow(hall, "isMisrouted " + bag, NO_SUCH, () -> hall.isMisrouted(bag));
        Check.dueThrow(hall, "hasOpenFile " + bag, NO_SUCH, () -> hall.hasOpenFile(bag));
        Check.dueThrow(hall, "minutesUntilChute " + bag, NO_SUCH, () -> hall.minutesUntilChute(bag));
    }

    private static void promise18() {
        BagCarousel hall = Halls.with(0);
        int bag = hall.checkIn(0, 1, 0);
        hall.pass(3);
        hall.giveChute(0, 1);
        due("on the belt a bag is not misrouted, whatever it was read for", hall.isMisrouted(bag), false);
        hall.pass(2);
        due("in a chute that is not its flight's", hall.isMisrouted(bag), true);
        hall.depart(0);
        due("with a gone flight", hall.isMisrouted(bag), true);
        hall.sweep(0);
        due("at the desk", hall.isMisrouted(bag), false);

        BagCarousel gone = Halls.with(0);
        gone.setRoom(0, 1);
        int loaded = gone.checkIn(0, 1, 0);
        int late = gone.checkIn(0, 1, 0);
        gone.pass(6);
        due("in its chute", gone.isMisrouted(loaded), false);
        gone.depart(0);
        due("loaded", gone.isMisrouted(loaded), false);
        gone.pass(12);
        due("in the chute of its gone flight", gone.chuteOf(late), gone.chuteOfFlight(0));
        due("it is misrouted", gone.isMisrouted(late), true);
    }

    private static void promise19() {
        BagCarousel hall = Halls.with(0, 1);
        int bag = hall.checkIn(0, 8, 0);
        due("no file", hall.hasOpenFile(bag), false);
        hall.depart(0);
        due("an open one", hall.hasOpenFile(bag), true);
        hall.forward(bag, 1);
        due("a closed one", hall.hasOpenFile(bag), false);
        hall.carry(bag);
        due("still closed", hall.closedFiles(), 1);
        hall.depart(1);
        due("loaded, it stays closed", hall.hasOpenFile(bag), false);
        due("and is counted", hall.closedFiles(), 1);
    }

    private static void promise20() {
        BagCarousel hall = Halls.with(3);
        for (int bag = 0; bag < 4; bag++) {
            hall.checkIn(0, 1, 0);
        }
        hall.pass(10);
        due("bagAt 9", hall.bagAt(9), 0);
        due("bagAt 8", hall.bagAt(8), 1);
        due("bagAt 7", hall.bagAt(7), 2);
        due("bagAt 6", hall.bagAt(6), 3);
        due("bagAt 5", hall.bagAt(5), -1);
        due("bagAt 10", hall.bagAt(10), -1);
        due("bagAt 0", hall.bagAt(0), -1);
        due("bagAt 11", hall.bagAt(11), -1);
        hall.pass(1);
        due("bagAt 10 when the bag is in the chute", hall.bagAt(10), -1);
        for (int place : new int[] {-1, 12, Integer.MIN_VALUE, Integer.MAX_VALUE}) {
            Check.dueThrow(hall, "bagAt " + place, NO_SUCH, () -> hall.bagAt(place));
        }
    }

    private static void promises21To23() {
        BagCarousel hall = Halls.with(0, 0, 2);
        Halls.bring(hall, 0);
        Halls.bring(hall, 0);
        Halls.bring(hall, 1);
        Halls.bring(hall, 2);
        due("bagsIn 0", hall.bagsIn(0), 3);
        due("bagsIn 1", hall.bagsIn(1), 0);
        due("bagsIn 2", hall.bagsIn(2), 1);
        due("misroutedIn 0", hall.misroutedIn(0), 0);
        hall.giveChute(0, 3);
        due("misroutedIn 0", hall.misroutedIn(0), 2);
        due("misroutedIn 2", hall.misroutedIn(2), 0);
        due("bagsIn 0 with misrouted ones", hall.bagsIn(0), 3);
        hall.giveChute(1, 3);
        due("misroutedIn 0", hall.misroutedIn(0), 3);
        hall.setRoom(0, 20);
        due("roomOf 0 in all", hall.roomOf(0), 20);
        due("roomOf 3", hall.roomOf(3), 5);
        for (int chute : NO_CHUTES) {
            Check.dueThrow(hall, "bagsIn " + chute, NO_SUCH, () -> hall.bagsIn(chute));
            Check.dueThrow(hall, "misroutedIn " + chute, NO_SUCH, () -> hall.misroutedIn(chute));
            Check.dueThrow(hall, "roomOf " + chute, NO_SUCH, () -> hall.roomOf(chute));
        }
    }

    private static void promises24And25() {
        BagCarousel hall = Halls.with(-1, 2);
        due("chuteOfFlight without", hall.chuteOfFlight(0), -1);
        due("chuteOfFlight", hall.chuteOfFlight(1), 2);
        due("isGone", hall.isGone(1), false);
        hall.depart(1);
        due("isGone", hall.isGone(1), true);
        due("isGone of the other", hall.isGone(0), false);
        due("chuteOfFlight of a gone one", hall.chuteOfFlight(1), 2);
        for (int flight : new int[] {-1, 2, 6, Integer.MIN_VALUE, Integer.MAX_VALUE}) {
            noSuchFlight(hall, flight);
        }
        noSuchFlight(new BagCarousel(), 0);
    }

    private static void noSuchFlight(BagCarousel hall, int flight) {
        Check.dueThrow(hall, "chuteOfFlight " + flight, NO_SUCH, () -> hall.chuteOfFlight(flight));
        Check.dueThrow(hall, "isGone " + flight, NO_SUCH, () -> hall.isGone(flight));
        Check.dueThrow(hall, "readyOf " + flight, NO_SUCH, () -> hall.readyOf(flight));
        Check.dueThrow(hall, "missingOf " + flight, NO_SUCH, () -> hall.missingOf(flight));
        Check.dueThrow(hall, "readyAfter " + flight, NO_SUCH, () -> hall.readyAfter(flight, 1));
        Check.dueThrow(hall, "readyAfter " + flight + " 0", NO_SUCH, () -> hall.readyAfter(flight, 0));
        Check.dueThrow(hall, "bestChute " + flight, NO_SUCH, () -> hall.bestChute(flight, 1));
        Check.dueThrow(hall, "bestChute " + flight + " 0", NO_SUCH, () -> hall.bestChute(flight, 0));
    }

    private static void promises26And27() {
        BagCarousel hall = Halls.with(0, 0, -1);
        hall.setRoom(0, 2);
        due("readyOf without bags", hall.readyOf(0), 0);
        due("missingOf without bags", hall.missingOf(0), 0);
        Halls.bring(hall, 0);
        Halls.bring(hall, 1);
        hall.checkIn(0, 1, 0);
        hall.checkIn(0, 8, 0);
        hall.checkIn(2, 1, 0);
        hall.pass(12);
        due("readyOf in its chute", hall.readyOf(0), 1);
        due("missingOf", hall.missingOf(0), 2);
        due("readyOf the other", hall.readyOf(1), 1);
        due("missingOf the other", hall.missingOf(1), 0);
        due("readyOf without a chute", hall.readyOf(2), 0);
        due("missingOf without a chute", hall.missingOf(2), 1);
        hall.depart(0);
        due("readyOf loaded", hall.readyOf(0), 1);
        due("missingOf loaded", hall.missingOf(0), 2);
        hall.pass(12);
        due("one came into the chute behind its flight", hall.bagsIn(0), 2);
        due("readyOf does not count it", hall.readyOf(0), 1);
        due("missingOf does", hall.missingOf(0), 2);
        hall.giveChute(1, 3);
        due("readyOf with a misrouted one", hall.readyOf(1), 0);
        due("missingOf with a misrouted one", hall.missingOf(1), 1);
    }

    private static void promises28To36() {
        BagCarousel hall = Halls.with(0, 1);
        due("flights", hall.flights(), 2);
        hall.pass(7);
        due("minute", hall.minute(), 7);
        for (int bag = 0; bag < 3; bag++) {
            hall.checkIn(0, 1, 9);
        }
        hall.checkIn(1, 8, 0);
        hall.checkIn(1, 1, 0);
        due("bags", hall.bags(), 5);
        due("inLine, without big ones", hall.inLine(), 4);
        due("onBelt", hall.onBelt(), 0);
        hall.pass(3);
        due("inLine", hall.inLine(), 1);
        due("onBelt", hall.onBelt(), 3);
        hall.pass(25);
        due("atDesk, without big ones", hall.atDesk(), 2);
        due("onBelt", hall.onBelt(), 1);
        due("openFiles", hall.openFiles(), 0);
        hall.depart(0);
        hall.depart(1);
        due("bags, with loaded ones", hall.bags(), 5);
        due("openFiles", hall.openFiles(), 4);
        due("closedFiles", hall.closedFiles(), 0);
        hall.addFlight();
        hall.forward(0, 2);
        hall.forward(3, 2);
        due("openFiles", hall.openFiles(), 2);
        due("closedFiles", hall.closedFiles(), 2);
        due("atDesk", hall.atDesk(), 1);
        due("inLine", hall.inLine(), 1);
        due("flights, with gone ones", hall.flights(), 3);
        hall.setReader(8);
        due("reader", hall.reader(), 8);
        due("minute", hall.minute(), 35);
    }

    private static void promise37() {
        BagCarousel hall = Halls.with(0, 3, -1);
        int first = hall.checkIn(0, 1, 0);
        int second = hall.checkIn(1, 1, 0);
        int unread = hall.checkIn(2, 1, 0);
        int big = hall.checkIn(0, 8, 0);
        String before = Check.look(hall);
        due("minutesUntilChute of the first", hall.minutesUntilChute(first), 5);
        due("of the second", hall.minutesUntilChute(second), 12);
        due("of one without a chute", hall.minutesUntilChute(unread), -1);
        due("of a big one", hall.minutesUntilChute(big), -1);
        due("nothing is changed", Check.look(hall), before);
        due("no minute went by", hall.minute(), 0);
        hall.pass(4);
        due("a minute before", hall.minutesUntilChute(first), 1);
        hall.pass(1);
        due("in the chute", hall.minutesUntilChute(first), 0);
        hall.depart(0);
        due("loaded", hall.minutesUntilChute(first), -1);
        hall.pass(40);
        due("at the desk", hall.minutesUntilChute(unread), -1);
        hall.setRoom(3, 1);
        int round = hall.checkIn(1, 1, 0);
        due("with no room", hall.minutesUntilChute(round), -1);
        promise37Reader();
        promise37Farthest();
    }

    private static void promise37Reader() {
        BagCarousel hall = Halls.with(1);
        int smudged = hall.checkIn(0, 1, 6);
        due("minutesUntilChute of a smudged one", hall.minutesUntilChute(smudged), -1);
        due("readyAfter with a smudged one", hall.readyAfter(0, 60), 0);
        hall.setReader(6);
        due("with a stronger reader", hall.minutesUntilChute(smudged), 7);
        due("readyAfter with a stronger reader", hall.readyAfter(0, 7), 1);
        hall.setReader(0);
        hall.pass(15);
        hall.setReader(9);
        due("of one that was missed twice", hall.minutesUntilChute(smudged), 16);
        hall.setReader(5);
        hall.pass(12);
        due("of one that came to the desk", hall.minutesUntilChute(smudged), -1);
        hall.carry(smudged);
        due("of one that was carried", hall.minutesUntilChute(smudged), 0);
        hall.giveChute(0, 2);
        due("of a misrouted one", hall.minutesUntilChute(smudged), 0);
    }

    private static void promise37Farthest() {
        BagCarousel hall = Halls.with(-1, 3);
        // Twelve unread ones at a time go round until each leaves for the desk, 36 minutes behind the twelve before.
        for (int bag = 0; bag < 36; bag++) {
            hall.checkIn(0, 1, 0);
        }
        int before = hall.checkIn(1, 1, 0);
        int at = hall.checkIn(1, 1, 0);
        int beyond = hall.checkIn(1, 1, 0);
        due("119 minutes", hall.minutesUntilChute(before), 119);
        due("120 minutes", hall.minutesUntilChute(at), 120);
        due("121 minutes", hall.minutesUntilChute(beyond), -1);
        hall.pass(1);
        due("a minute later", hall.minutesUntilChute(beyond), 120);
        hall.pass(60);
        hall.pass(59);
        due("behind them it goes as told", hall.minutesUntilChute(beyond), 1);
        due("so it stands before the chute", hall.placeOf(beyond), 9);
    }

    private static void promise38() {
        BagCarousel hall = Halls.with(0, 3);
        hall.checkIn(0, 1, 0);
        hall.checkIn(0, 1, 0);
        hall.checkIn(1, 1, 0);
        String before = Check.look(hall);
        due("readyAfter 0 4", hall.readyAfter(0, 4), 0);
        due("readyAfter 0 5", hall.readyAfter(0, 5), 1);
        due("readyAfter 0 6", hall.readyAfter(0, 6), 2);
        due("readyAfter 1 12", hall.readyAfter(1, 12), 0);
        due("readyAfter 1 13", hall.readyAfter(1, 13), 1);
        due("readyAfter 1 60", hall.readyAfter(1, 60), 1);
        due("nothing is changed", Check.look(hall), before);
        for (int minutes : NO_MINUTES) {
            Check.dueThrow(hall, "readyAfter 0 " + minutes, WRONG, () -> hall.readyAfter(0, minutes));
        }
        hall.pass(5);
        hall.depart(0);
        due("readyAfter of a gone one", hall.readyAfter(0, 60), 1);
        hall.giveChute(1, 1);
        due("readyAfter, when a bag was read for another chute", hall.readyAfter(1, 60), 0);
        hall.checkIn(1, 1, 0);
        due("readyAfter too early", hall.readyAfter(1, 6), 0);
        due("readyAfter with the new chute", hall.readyAfter(1, 7), 1);
    }

    private static void promise39() {
        BagCarousel hall = Halls.with(2, -1);
        hall.checkIn(1, 1, 0);
        due("too few minutes: all are alike", hall.bestChute(1, 4), 0);
        due("the nearest chute", hall.bestChute(1, 5), 0);
        due("of several the smallest", hall.bestChute(1, 60), 0);
        due("one without bags", hall.bestChute(0, 60), 0);
        due("it has no chute still", hall.chuteOfFlight(1), -1);
        hall.setRoom(0, 1);
        hall.checkIn(1, 1, 0);
        String before = Check.look(hall);
        due("with little room in 0", hall.bestChute(1, 60), 1);
        due("but time for one alone", hall.bestChute(1, 7), 0);
        due("time for two in 1", hall.bestChute(1, 8), 1);
        due("nothing is changed", Check.look(hall), before);
        promise39Chutes();

        hall.depart(0);
        Check.dueThrow(hall, "bestChute of a gone one", NOT_NOW, () -> hall.bestChute(0, 5));
        for (int minutes : NO_MINUTES) {
            Check.dueThrow(hall, "bestChute 1 " + minutes, WRONG, () -> hall.bestChute(1, minutes));
            Check.dueThrow(hall, "bestChute of a gone one " + minutes, WRONG, () -> hall.bestChute(0, minutes));
        }
    }

    private static void promise39Chutes() {
        BagCarousel hall = Halls.with(3);
        Halls.bring(hall, 0);
        due("the chute in which its bag is", hall.bestChute(0, 60), 3);
        hall.giveChute(0, 1);
        due("also when it has another now", hall.bestChute(0, 60), 3);
        hall.checkIn(0, 1, 0);
        due("one is in 3, the other would come there too", hall.bestChute(0, 11), 3);
        due("as many in 0 as in 3", hall.bestChute(0, 10), 0);
        hall.giveChute(0, 2);
        hall.pass(3);
        due("one is in 3, one was read for 2", hall.bestChute(0, 60), 2);
        due("the flight keeps its chute", hall.chuteOfFlight(0), 2);
    }

    private static void promise40() {
        BagCarousel hall = Halls.with(0, 1);
        due("meanMisses without bags", hall.meanMisses(), 0.0);
        int missed = hall.checkIn(0, 1, 9);
        hall.checkIn(0, 1, 0);
        hall.checkIn(0, 8, 0);
        due("meanMisses before", hall.meanMisses(), 0.0);
        hall.pass(3);
        due("meanMisses of 1 in 3", hall.meanMisses(), 1.0 / 3);
        hall.pass(12);
        due("meanMisses of 2 in 3", hall.meanMisses(), 2.0 / 3);
        hall.pass(12);
        due("meanMisses of 3 in 3", hall.meanMisses(), 1.0);
        hall.depart(0);
        hall.forward(missed, 1);
        due("meanMisses of a forwarded one", hall.meanMisses(), 0.0);
    }

    private static void promise41() {
        BagCarousel hall = new BagCarousel();
        long empty = sum(1867, 0, 0, 0, 0, 0, 0, 0, 0, 5);
        empty = sum(empty, 0, 0, 5, 0, 0, 5, 0, 0, 5, 0, 0, 5);
        due("digest of a new hall", hall.digest(), empty);

        hall.addFlight();
        hall.addFlight();
        hall.giveChute(0, 1);
        hall.checkIn(0, 1, 0);
        hall.checkIn(0, 8, 0);
        hall.checkIn(1, 1, 9);
        hall.setRoom(2, 9);
        hall.pass(7);
        hall.giveChute(0, 3);
        hall.depart(0);
        hall.setReader(7);
        long want = sum(1867, 7, 2, 3, 0, 1, 0, 2, 0, 7);
        want = sum(want, 0, 2, -1, 1, 1, 0, 1, 1);
        want = sum(want, 0, 4, -1, -1, -1, 0, 0, 1);
        want = sum(want, 1, 1, 5, -1, -1, 1, 0, 0);
        want = sum(want, 0, 0, 5, 1, 1, 5, 0, 0, 9, 0, 0, 5);
        want = sum(want, 3, 1, 0, 2, -1, 0, 0, 1);
        due("digest of a hall", hall.digest(), want);
        due("digest again", hall.digest(), want);
    }

    private static long sum(long start, long... numbers) {
        long sum = start;
        for (long number : numbers) {
            sum = sum * 31 + number;
        }
        return sum;
    }
}
