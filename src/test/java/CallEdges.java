import java.util.function.ToLongFunction;

/** Edges of promises 8 to 14, and of which exception is thrown by any call. */
final class CallEdges extends Edges {
    private static final String HOUSE = "room 3 4 2;west 0;room 0 9 4;south 1;guest 5 in 1;guest 6 in 1;trunk 1 to 2 in 0;trunk 3 to 4 in 0;snow 0 77";
    private static final int[] OTHER_WHATS = {-1, -2, LEAST_INT, MOST_INT, 100};

    private CallEdges() {
    }

    static void all() {
        edge(8, "Of a ROOM what 0 X, 1 Y, 2 BEDS, 3 SNOW, 4 FAR, 5 GUESTS in it, 6 TRUNKS in it.", CallEdges::room);
        edge(8, "NoSuchElementException: another what.", CallEdges::roomWhat);
        edge(9, "The ROOM of a GUEST.", CallEdges::where);
        edge(10, "Of a TRUNK what 0 LEAST, 1 MOST, 2 ROOM.", CallEdges::trunk);
        edge(10, "NoSuchElementException: another what.", CallEdges::trunkWhat);
        edge(11, "A GUEST goes to a ROOM, by hand (BEDS are not looked at): where he was.", CallEdges::go);
        edge(12, "MOMENT by X (y false) or Y what 0 NET, 1 LOW, 2 HIGH.", CallEdges::moment);
        edge(12, "NoSuchElementException: another what.", CallEdges::momentWhat);
        edge(13, "LEVEL.", CallEdges::level);
        edge(14, "The SEATING as it is, as a number (whatever BEDS).", CallEdges::seating);
        edge(8, "IndexOutOfBoundsException: there is no such ROOM, GUEST, TRUNK, READING.", CallEdges::noSuch);
        edge(8, "Of several exceptions the one told first is thrown;", CallEdges::toldFirst);
        edge(4, "a call that throws changes nothing but the TAPE, where it is used up.", CallEdges::changesNothing);
    }

    private static void room() {
        int[][] want = {{-3, 4, 2, 77, 7, 0, 2}, {0, -9, 4, 0, 9, 2, 0}};
        PinInn inn = Inn.of(HOUSE);
        for (int r = 0; r < 2; r++) {
            for (int what = 0; what < 7; what++) {
                due("room(" + r + ", " + what + ")", inn.room(r, what), want[r][what]);
            }
        }
        PinInn full = Inn.of("room 0 0 1;" + lines("guest 1 in 0", 5) + ";" + lines("trunk 0 to 0 in 0", 6));
        due("5 GUESTS", full.room(0, 5), 5);
        due("6 TRUNKS", full.room(0, 6), 6);
    }

    private static void roomWhat() {
        PinInn inn = Inn.of(HOUSE);
        refused(inn, "room(0, 7)", ELEMENT, () -> inn.room(0, 7));
        for (int what : OTHER_WHATS) {
            dueThrow("room(1, " + what + ")", ELEMENT, () -> inn.room(1, what));
        }
    }

    private static void where() {
        PinInn inn = Inn.of(lines("room 0 0 1", 8), "guest 1 in 7;guest 1 in 0");
        due("the last ROOM", inn.where(0), 7);
        due("the first ROOM", inn.where(1), 0);
        refused(inn, "where(2)", INDEX, () -> inn.where(2));
        refused(inn, "where(-1)", INDEX, () -> inn.where(-1));
    }

    private static void trunk() {
        PinInn inn = Inn.of(lines("room 0 0 1", 8), "trunk 0 to 300 in 7;trunk 9 to 9 in 0");
        int[][] want = {{0, 300, 7}, {9, 9, 0}};
        for (int t = 0; t < 2; t++) {
            for (int what = 0; what < 3; what++) {
                due("trunk(" + t + ", " + what + ")", inn.trunk(t, what), want[t][what]);
            }
        }
        refused(inn, "trunk(2, 0)", INDEX, () -> inn.trunk(2, 0));
    }

    private static void trunkWhat() {
        PinInn inn = Inn.of(HOUSE);
        refused(inn, "trunk(0, 3)", ELEMENT, () -> inn.trunk(0, 3));
        for (int what : OTHER_WHATS) {
            dueThrow("trunk(1, " + what + ")", ELEMENT, () -> inn.trunk(1, what));
        }
    }

    private static void go() {
        PinInn inn = Inn.of("room 0 0 1;room 0 0 1;" + lines("guest 1 in 0", 5));
        for (int g = 0; g < 5; g++) {
            due("all into one bed, GUEST " + g, inn.go(g, 1), 0);
        }
        due("GUESTS in it", inn.room(1, 5), 5);
        due("GUESTS in the other", inn.room(0, 5), 0);
        due("where he is already", inn.go(4, 1), 1);
        due("and back", inn.go(4, 0), 1);
        due("there he is", inn.where(4), 0);
        due("the others stay", inn.seating(), 01111);
    }

    private static void moment() {
        PinInn inn = Inn.of("room 2 3 1;guest 10 in 0;trunk 4 to 7 in 0");
        int[] byX = {20, 28, 34};
        int[] byY = {30, 42, 51};
        for (int what = 0; what < 3; what++) {
            due("by X, what " + what, inn.moment(false, what), byX[what]);
            due("by Y, what " + what, inn.moment(true, what), byY[what]);
        }
    }

    private static void momentWhat() {
        PinInn inn = Inn.of(HOUSE);
        refused(inn, "moment(false, 3)", ELEMENT, () -> inn.moment(false, 3));
        refused(inn, "moment(true, 3)", ELEMENT, () -> inn.moment(true, 3));
        for (int what : OTHER_WHATS) {
            dueThrow("moment(true, " + what + ")", ELEMENT, () -> inn.moment(true, what));
            dueThrow("moment(false, " + what + ")", ELEMENT, () -> inn.moment(false, what));
        }
    }

    private static void level() {
        PinInn inn = Inn.of("room 1 0 1;room 0 0 1;guest 9 in 0;bound 9");
        due("just", inn.level(), true);
        Inn.house(inn, "bound 8");
        due("no more", inn.level(), false);
        inn.go(0, 1);
        due("on the pin", inn.level(), true);
        PinInn full = Inn.of("room 0 0 1;" + lines("guest 1 in 0", 5));
        due("BEDS do not matter", full.level(), true);
    }

    private static void seating() {
        PinInn inn = Inn.of("room 0 0 1;room 0 0 1;room 0 0 1;" + lines("guest 1 in 2", 5));
        due("5 in one bed", inn.seating(), 022222);
        inn.go(2, 0);
        due("a figure 0 between", inn.seating(), 022022);
    }

    private static void noSuch() {
        PinInn inn = Inn.of(HOUSE);
        inn.read(1, 2);
        int[] none = {-1, LEAST_INT, MOST_INT, 8};
        for (int n : none) {
            noSuchRoom(inn, n);
            noSuchGuest(inn, n);
            noSuchTrunkOrReading(inn, n);
        }
        noSuchRoom(inn, 2);
        noSuchGuest(inn, 2);
        noSuchTrunkOrReading(inn, 2);
        dueThrow("reading 1 of 1", INDEX, () -> inn.fits(1));
        dueThrow("reading 1 of 1", INDEX, () -> inn.meeting(1, 0, 1));
        PinInn empty = new PinInn();
        noSuchRoom(empty, 0);
        noSuchGuest(empty, 0);
        noSuchTrunkOrReading(empty, 0);
    }

    private static void noSuchRoom(PinInn inn, int room) {
        dueThrow("room " + room, INDEX, () -> inn.room(room, 0));
        dueThrow("go to " + room, INDEX, () -> inn.go(0, room));
        dueThrow("stove to " + room, INDEX, () -> inn.stove(room));
    }

    private static void noSuchGuest(PinInn inn, int guest) {
        dueThrow("wishes of " + guest, INDEX, () -> Inn.wishes(inn, guest, "want alone"));
        dueThrow("where " + guest, INDEX, () -> inn.where(guest));
        dueThrow("go " + guest, INDEX, () -> inn.go(guest, 0));
        dueThrow("rent " + guest, INDEX, () -> inn.rent(guest, 1, 1));
        dueThrow("meeting " + guest, INDEX, () -> inn.meeting(0, guest, 0));
        dueThrow("meeting with " + guest, INDEX, () -> inn.meeting(0, 0, guest));
        if (guest != NONE) {
            dueThrow("met " + guest, INDEX, () -> inn.met(guest));
        }
    }

    private static void noSuchTrunkOrReading(PinInn inn, int n) {
        dueThrow("trunk " + n, INDEX, () -> inn.trunk(n, 0));
        dueThrow("weighed " + n, INDEX, () -> inn.weighed(n, 0));
        dueThrow("weigh " + n, INDEX, () -> weigh(inn, n, 1));
        dueThrow("fits " + n, INDEX, () -> inn.fits(n));
        dueThrow("meeting at " + n, INDEX, () -> inn.meeting(n, 0, 0));
    }

    private static long weigh(PinInn inn, int trunk, int weight) {
        inn.weigh(trunk, weight);
        return 0;
    }

    private static void toldFirst() {
        PinInn inn = Inn.of(HOUSE);
        dueThrow("room: no ROOM, no what", INDEX, () -> inn.room(2, 7));
        dueThrow("trunk: no TRUNK, no what", INDEX, () -> inn.trunk(2, 3));
        dueThrow("wishes: no GUEST, a wrong text", INDEX, () -> Inn.wishes(inn, 2, "x"));
        dueThrow("weigh: no TRUNK, no WEIGHT", INDEX, () -> weigh(inn, 2, -1));
        dueThrow("rent: no GUEST, no BASE, no RATE", INDEX, () -> inn.rent(2, -1, -1));
        dueThrow("bells: no SEATING, no k", ARGUMENT, () -> inn.bells(-2, -2));
        PinInn ten = new PinInn();
        for (int i = 0; i < 10; i++) {
            Inn.house(ten, "");
        }
        dueThrow("house: wrong, and there are 10", ARGUMENT, () -> Inn.house(ten, "x"));
        dueThrow("house: there are 10", UNSUPPORTED, () -> Inn.house(ten, "bound 5"));
    }

    private static PinInn rich() {
        PinInn inn = Inn.of(HOUSE, "stove 9 in 1;slide 20");
        Inn.wishes(inn, 0, "want x < 9;want alone");
        Inn.book(inn, "at 5 0 to 0;at 7 1 to 0");
        inn.seed(33);
        for (int i = 0; i < 8; i++) {
            inn.read(i, i);
        }
        return inn;
    }

    private static void changesNothing() {
        onRich("room", INDEX, inn -> inn.room(2, 0));
        onRich("room", ELEMENT, inn -> inn.room(0, 7));
        onRich("where", INDEX, inn -> inn.where(2));
        onRich("trunk", INDEX, inn -> inn.trunk(2, 0));
        onRich("trunk", ELEMENT, inn -> inn.trunk(0, 3));
        onRich("go", INDEX, inn -> inn.go(2, 0));
        onRich("go", INDEX, inn -> inn.go(0, 2));
        onRich("moment", ELEMENT, inn -> inn.moment(true, 3));
        onRich("met", INDEX, inn -> inn.met(2));
        onRich("day", ELEMENT, inn -> inn.day(4));
        onRich("seats", ELEMENT, inn -> inn.seats(3));
        onRich("bells", ARGUMENT, inn -> inn.bells(64, 0));
        onRich("stove", INDEX, inn -> inn.stove(2));
        onRich("wing", ARGUMENT, inn -> inn.wing(0));
        onRich("read", UNSUPPORTED, inn -> inn.read(0, 0));
        onRich("fits", INDEX, inn -> inn.fits(8));
        onRich("meeting", INDEX, inn -> inn.meeting(0, 0, 2));
        onRich("weighed", INDEX, inn -> inn.weighed(2, 0));
        onRich("weigh", INDEX, inn -> weigh(inn, 2, 1));
        onRich("weigh", ARGUMENT, inn -> weigh(inn, 0, 3));
        onRich("night", ARGUMENT, inn -> inn.night(501));
        onRich("melt", ARGUMENT, inn -> inn.melt(-1));
        onRich("rent", INDEX, inn -> inn.rent(2, 0, 0));
        onRich("rent", ARGUMENT, inn -> inn.rent(0, 10000, 0));
        textsUseUp();
    }

    private static void onRich(String what, Class<?> want, ToLongFunction<PinInn> call) {
        PinInn inn = rich();
        refused(inn, what, want, () -> call.applyAsLong(inn));
    }

    /** house(), wishes() and book() use the TAPE up, whatever they throw. */
    private static void textsUseUp() {
        PinInn inn = rich();
        wrongHouse(inn, "bound 5;snow 0 3;west 0;^");
        wrongBook(inn, "at 5 0 to 1;^");
        PinInn other = rich();
        wrongWishes(other, 1, "want alone;^");
        String before = look(other);
        dueThrow("wishes", INDEX, () -> Inn.wishes(other, 2, "want alone"));
        due("wishes: used up", other.end(1), false);
        due("wishes: fault()", other.fault(), 11);
        due("wishes: nothing else changes", look(other).equals(before), true);
    }
}
