/** Edges of promises 18 to 21: SEATS, BELLS, THE STOVE and WAKE. */
final class SeatEdges extends Edges {
    /** Two ROOMS one step off in the east and in the west. */
    private static final String SIDES = "room 1 0 4;room 1 0 4;west 1";

    private SeatEdges() {
    }

    static void all() {
        edge(18, "SEATS: of all SEATINGS that are LEVEL the one by which most WISHES are MET, by all GUESTS together;",
            SeatEdges::mostWishes);
        edge(18, "of several the first (by the ROOM of GUEST 0, then 1, ..); none.", SeatEdges::firstOfSeveral);
        edge(18, "SEATS what 0 the SEATING, 1 how many WISHES are MET, 2 how many SEATINGS are LEVEL; NONE without (of 2: 0).",
            SeatEdges::seatsWhats);
        edge(18, "NoSuchElementException: another what.", SeatEdges::anotherWhat);
        edge(19, "BELLS from the SEATING as it is to SEATS (or to a told one):", SeatEdges::toSeats);
        edge(19, "each bell sends one GUEST to another ROOM; behind each it must be a SEATING and LEVEL (what it is now need not be):",
            SeatEdges::eachBell);
        edge(19, "the fewest (0, if it is so already);", SeatEdges::fewest);
        edge(19, "of several ways the first (by GUEST, then ROOM of each bell); none.", SeatEdges::firstWay);
        edge(19, "BELLS to a SEATING (NONE: to SEATS): how many (k NONE), or the k-th: 8 times the GUEST and the ROOM (NONE behind);"
            + " NONE, if there is no way;", SeatEdges::kth);
        edge(19, "IllegalArgumentException: it is no SEATING, or k is below NONE.", SeatEdges::noSeating);
        edge(20, "THE STOVE to a ROOM: a bell sends a GUEST to another ROOM, or THE STOVE to a ROOM one step off (along X and Y together);",
            SeatEdges::stoveSteps);
        edge(20, "behind each it must be a SEATING and LEVEL: the fewest (0, if it is there); none (4 GUESTS at most).",
            SeatEdges::stoveLevel);
        edge(20, "THE STOVE to a ROOM: how many bells; NONE; -3, if there are 5 GUESTS.", SeatEdges::fiveGuests);
        edge(21, "WAKE: the fewest GUESTS that must be in another ROOM so that it is a SEATING and LEVEL; the first such SEATING"
            + " (as of SEATS); none.", SeatEdges::wake);
        edge(21, "WAKE: how many (seating false), or the SEATING; NONE.", SeatEdges::wakeAnswers);
    }

    private static void mostWishes() {
        PinInn inn = Inn.of(SIDES, "guest 60 in 0;guest 60 in 0;bound 0");
        Inn.wishes(inn, 0, "want room < 1");
        Inn.wishes(inn, 1, "want room < 1;want x > 9");
        due("two of GUEST 1 are more than one of GUEST 0", inn.seats(0), 001);
        due("MET", inn.seats(1), 2);
        Inn.wishes(inn, 0, "want room < 1;want x > 9");
        due("as many: the first", inn.seats(0), 010);
        Inn.wishes(inn, 0, "want room < 1;want x > 9;want alone;want with 1");
        Inn.wishes(inn, 1, "want room < 1;want x > 9;want with 0;want with 0;want with 0");
        due("together they would have more, but that is not LEVEL", inn.seats(1), 3);
        Inn.house(inn, "bound 119");
        due("still not", inn.seats(1), 3);
        Inn.house(inn, "bound 120");
        due("now it is", inn.seats(0), 0);
        due("MET", inn.seats(1), 3 + 5);
        PinInn most = Inn.of(lines("room 1 1 4", 8), lines("guest 1 in 0", 5));
        for (int g = 0; g < 5; g++) {
            Inn.wishes(most, g, lines("want room > " + (6 - g % 2) + " and with " + g, 8));
        }
        // five cannot all be in ROOM 7: GUESTS 1 and 3 may be in 6 too, and GUEST 1 is the first who may
        due("all 40", most.seats(1), 40);
        due("the first", most.seats(0), 076767);
        company();
        String[] axes = {"room 1 0 1;west 0;room 0 0 1;room 1 0 1", "room 0 1 1;south 0;room 0 0 1;room 0 1 1"};
        for (String axis : axes) {
            allSides(Inn.of(axis, "guest 10 in 1;bound 10"));
        }
        PinInn worst = Inn.of(SIDES, "trunk 0 to 5 in 0;guest 10 in 0;bound 10");
        Inn.wishes(worst, 0, "want x > 9");
        due("he would have it in the east, but not at the worst", worst.seats(0), 1);
        Inn.house(worst, "bound 15");
        due("at the worst just BOUND", worst.seats(0), 0);
    }

    /** ROOM 0 is below the pin, 1 on it, 2 above it; SEATS are asked for again and again as things change. */
    private static void allSides(PinInn inn) {
        due("all three are LEVEL", inn.seats(2), 3);
        Inn.house(inn, "snow 2 1");
        due("SNOW above: not he above it", inn.seats(2), 2);
        due("the first is below", inn.seats(0), 0);
        Inn.house(inn, "snow 2 0;stove 1 in 0");
        due("THE STOVE below: not he below it", inn.seats(2), 2);
        due("the first is on the pin", inn.seats(0), 1);
        Inn.house(inn, "stove 0 in 0;trunk 0 to 1 in 2");
        due("a TRUNK above, at the worst: HIGH", inn.seats(2), 2);
        due("the first is below", inn.seats(0), 0);
        due("woken above", wokenFrom(inn, 2), 1);
        Inn.house(inn, "bound 11;trunk 0 to 2 in 0");
        due("a TRUNK below, at the worst: LOW", inn.seats(2), 2);
        due("the first is on the pin", inn.seats(0), 1);
        due("woken below", wokenFrom(inn, 0), 1);
        due("no bell from the pin below", bellsFrom(inn, 1, 0), NONE);
        due("a bell from the pin above", bellsFrom(inn, 1, 2), 1);
        Inn.house(inn, "bound 12");
        due("just BOUND", inn.seats(2), 3);
        due("a bell from the pin below", bellsFrom(inn, 1, 0), 1);
    }

    private static int wokenFrom(PinInn inn, int room) {
        inn.go(0, room);
        return inn.wake(false);
    }

    private static int bellsFrom(PinInn inn, int room, int goal) {
        inn.go(0, room);
        return inn.bells(goal, NONE);
    }

    /** WISHES that hang on who is in the ROOM, by each SEATING anew. */
    private static void company() {
        PinInn inn = Inn.of("room 0 0 4;room 0 0 4;guest 1 in 0;guest 1 in 0;guest 1 in 0");
        Inn.wishes(inn, 0, "want with 1 and not with 2");
        due("GUEST 2 apart", inn.seats(0), 0100);
        Inn.wishes(inn, 0, "want with 2 and not with 1");
        due("GUEST 1 apart", inn.seats(0), 0010);
        Inn.wishes(inn, 0, "want alone");
        due("both apart", inn.seats(0), 0110);
        Inn.wishes(inn, 0, "want heads > 1 and heads < 3");
        due("one apart, the last first", inn.seats(0), 0100);
        Inn.wishes(inn, 2, "want with 0;want not with 1");
        due("GUESTS 0 and 2", inn.seats(0), 0010);
        due("MET", inn.seats(1), 3);
        Inn.wishes(inn, 1, "want with 0;want with 2;want room > 0");
        due("GUEST 1 in ROOM 1, or all three: the first", inn.seats(0), 0010);
        due("MET", inn.seats(1), 4);
        Inn.wishes(inn, 1, "want with 0;want with 2;want room > 0;want heads > 2");
        due("all three in ROOM 1", inn.seats(0), 0111);
        due("MET", inn.seats(1), 5);
    }

    private static void firstOfSeveral() {
        due("no WISH", Inn.of(lines("room 0 0 4", 8), lines("guest 1 in 7", 4)).seats(0), 0);
        due("one bed each: GUEST 0 first", Inn.of(lines("room 0 0 1", 8), lines("guest 1 in 7", 5)).seats(0), 043210);
        PinInn inn = Inn.of(lines("room 0 0 1", 3), lines("guest 1 in 2", 3));
        Inn.wishes(inn, 2, "want room < 1");
        due("GUEST 2 in ROOM 0, then GUEST 0 in 1", inn.seats(0), 0021);
        Inn.wishes(inn, 0, "want room < 1");
        due("either of both: GUEST 0 in ROOM 0 is the first", inn.seats(0), 0210);
        due("none", Inn.of("room 0 0 1", lines("guest 1 in 0", 2)).seats(0), NONE);
    }

    private static void seatsWhats() {
        PinInn inn = Inn.of(SIDES, "guest 10 in 0;guest 10 in 0;bound 0");
        Inn.wishes(inn, 0, "want alone;want with 4");
        int[] want = {010, 1, 2};
        for (int what = 0; what < 3; what++) {
            due("what " + what, inn.seats(what), want[what]);
        }
        Inn.house(inn, "snow 0 1");
        int[] without = {NONE, NONE, 0};
        for (int what = 0; what < 3; what++) {
            due("without, what " + what, inn.seats(what), without[what]);
        }
        Inn.house(inn, "snow 0 0;stove 20 in 0");
        due("one alone is LEVEL", inn.seats(2), 1);
        due("both in the west", inn.seats(0), 011);
        due("nobody, not LEVEL", Inn.of("room 1 0 1;snow 0 9;bound 8").seats(0), NONE);
        due("nobody, LEVEL", Inn.of("room 1 0 1;snow 0 9;bound 9").seats(0), 0);
        due("no WISHES MET is not none", Inn.of("room 1 0 1;guest 1 in 0").seats(1), 0);
    }

    private static void anotherWhat() {
        PinInn inn = Inn.of(SIDES, "guest 10 in 0");
        refused(inn, "seats(3)", ELEMENT, () -> inn.seats(3));
        for (int what : new int[] {-1, LEAST_INT, MOST_INT}) {
            dueThrow("seats(" + what + ")", ELEMENT, () -> inn.seats(what));
        }
    }

    private static void toSeats() {
        PinInn inn = Inn.of(SIDES, "guest 10 in 0;guest 10 in 0;bound 10");
        due("to SEATS", inn.bells(NONE, NONE), 1);
        due("to SEATS", inn.bells(NONE, 0), 8 * 1 + 1);
        due("to a told one", inn.bells(001, NONE), 1);
        due("to a told one", inn.bells(001, 0), 1);
        inn.go(1, 1);
        due("SEATS are as it is", inn.bells(NONE, NONE), 0);
        due("no bell", inn.bells(NONE, 0), NONE);
        Inn.house(inn, "snow 0 99");
        due("no SEATS", inn.bells(NONE, NONE), NONE);
        due("no SEATS", inn.bells(NONE, 0), NONE);
        due("nobody", new PinInn().bells(NONE, NONE), 0);
    }

    private static void eachBell() {
        // they must change sides, over a place at which it is not LEVEL
        PinInn sides = Inn.of(SIDES, "guest 10 in 0;guest 10 in 1;bound 19");
        due("not LEVEL between", sides.bells(001, NONE), NONE);
        Inn.house(sides, "bound 20");
        due("just LEVEL between", sides.bells(001, NONE), 2);
        // two of three would do, but each change is one GUEST to one ROOM with a free bed
        PinInn beds = Inn.of("room 0 0 1;room 0 0 1;guest 1 in 0;guest 1 in 1");
        due("no bed between", beds.bells(001, NONE), NONE);
        Inn.house(beds, "room 0 0 1");
        due("a bed to wait in", beds.bells(001, NONE), 3);
        PinInn full = Inn.of("room 0 0 1;room 0 0 1;room 0 0 1;guest 1 in 0;guest 1 in 0");
        due("what it is now need not be a SEATING", full.bells(001, NONE), 1);
        due("one bell must make it one", full.bells(021, NONE), 2);
        Inn.house(full, "guest 1 in 0");
        due("no bell makes it one", full.bells(0210, NONE), NONE);
        PinInn tilted = Inn.of("room 5 0 4;room 1 0 4;room 0 0 4;guest 10 in 0;guest 10 in 1;bound 10");
        due("what it is now need not be LEVEL", tilted.bells(022, NONE), 2);
        due("first he who tilts it", tilted.bells(022, 0), 2);
        Inn.house(tilted, "bound 9");
        due("no first bell makes it LEVEL but into the pin", tilted.bells(022, NONE), NONE);
        PinInn goal = Inn.of(SIDES, "guest 10 in 0;room 0 0 1;bound 9");
        due("the told one must be LEVEL", goal.bells(1, NONE), NONE);
        due("the pin is", goal.bells(2, NONE), 1);
    }

    private static void fewest() {
        PinInn inn = Inn.of(SIDES, "guest 10 in 0;bound 9");
        due("so already, though not LEVEL", inn.bells(0, NONE), 0);
        due("no bell", inn.bells(0, 0), NONE);
        PinInn all = Inn.of("room 0 0 4;room 0 0 4;room 0 0 4", lines("guest 1 in 0", 4), "guest 1 in 1");
        due("one", all.bells(010001, NONE), 1);
        due("all five, once each", all.bells(021221, NONE), 5);
        all.go(0, 1);
        all.go(4, 0);
        due("to ROOM 0 for all is no SEATING, to 1 for one is", all.bells(1, NONE), 0);
        PinInn zero = Inn.of("room 0 0 4;room 0 0 4;guest 1 in 1;guest 1 in 0");
        due("to ROOM 0 for all", zero.bells(0, NONE), 1);
        due("to ROOM 0 for all", zero.bells(0, 0), 0);
        PinInn round = Inn.of("room 1 0 1;room 1 0 1;west 1;room 2 0 1;room 0 0 1;guest 10 in 0;guest 10 in 1;bound 10");
        due("over the pin: 3", round.bells(001, NONE), 3);
        PinInn none = Inn.of("room 1 0 1;room 1 0 1;west 1;room 2 0 1;guest 10 in 0;guest 10 in 1;bound 10");
        // GUEST 0 to 2 makes 10; then GUEST 1 to 0 would make 30
        due("no way round", none.bells(001, NONE), NONE);
    }

    private static void firstWay() {
        PinInn inn = Inn.of("room 0 0 4;room 0 0 4;room 0 0 4", lines("guest 1 in 0", 4), "guest 1 in 1");
        int[] way = {1, 8 + 2, 16 + 2, 24 + 1, 32 + 2};
        for (int k = 0; k < 5; k++) {
            due("by GUEST, bell " + k, inn.bells(021221, k), way[k]);
        }
        PinInn eight = Inn.of(lines("room 0 0 4", 8), "guest 1 in 0;guest 1 in 0;guest 1 in 7");
        due("GUEST 1 alone has to go", eight.bells(0710, 0), 8 + 1);
        due("GUEST 2 alone has to go", eight.bells(0600, 0), 16 + 6);
        PinInn change = Inn.of("room 0 0 1;room 0 0 1;room 0 0 1;room 0 0 1;guest 1 in 0;guest 1 in 1");
        int[] first = {2, 8, 1};
        for (int k = 0; k < 3; k++) {
            due("GUEST 0 aside to the least ROOM, bell " + k, change.bells(001, k), first[k]);
        }
        // GUEST 0 may not be first: without him in the east it is not LEVEL
        PinInn second = Inn.of("room 1 0 4;room 0 0 4;room 1 0 4;west 2;guest 10 in 0;guest 10 in 2;bound 0");
        due("neither may go first", second.bells(011, NONE), NONE);
        Inn.house(second, "bound 10;snow 2 5");
        // NET -5: GUEST 0 to the pin would make -15; GUEST 1 first makes 5, then GUEST 0 -5
        due("two", second.bells(011, NONE), 2);
        due("GUEST 1 first", second.bells(011, 0), 8 + 1);
        due("then GUEST 0", second.bells(011, 1), 1);
        due("none", second.bells(022, NONE), NONE);
    }

    private static void kth() {
        PinInn inn = Inn.of(lines("room 0 0 1", 8), "guest 1 in 0;guest 1 in 1;guest 1 in 2;guest 1 in 3;guest 1 in 4");
        // GUESTS 3 and 4 change ROOMS, so that one of them must wait aside
        int[] aside = {7, 8 + 6, 16 + 5, 24, 32 + 3, 24 + 4, NONE};
        due("how many", inn.bells(034567, NONE), 6);
        for (int k = 0; k < aside.length; k++) {
            due("one waits aside, k " + k, inn.bells(034567, k), aside[k]);
        }
        int[] way = {7, 8 + 6, 16 + 5, 24 + 4, 32 + 3};
        PinInn free = Inn.of(lines("room 0 0 4", 8), "guest 1 in 0;guest 1 in 1;guest 1 in 2;guest 1 in 3;guest 1 in 4");
        due("how many", free.bells(034567, NONE), 5);
        for (int k = 0; k < 5; k++) {
            due("k " + k, free.bells(034567, k), way[k]);
        }
        for (int k : new int[] {5, 6, 1000, MOST_INT}) {
            due("behind, k " + k, free.bells(034567, k), NONE);
        }
        PinInn none = Inn.of(SIDES, "guest 10 in 0;bound 9");
        due("no way", none.bells(1, NONE), NONE);
        due("no way", none.bells(1, 0), NONE);
        due("no way", none.bells(1, MOST_INT), NONE);
    }

    private static void noSeating() {
        PinInn inn = Inn.of("room 0 0 1;room 0 0 1;guest 1 in 0;guest 1 in 1");
        int[] none = {-2, LEAST_INT, MOST_INT, 0100, 0110, 020, 002, 007, 070, 000, 011, 1 << 30};
        for (int seating : none) {
            dueThrow("bells(" + seating + ", NONE)", ARGUMENT, () -> inn.bells(seating, NONE));
            dueThrow("bells(" + seating + ", 0)", ARGUMENT, () -> inn.bells(seating, 0));
        }
        due("as it is", inn.bells(010, NONE), 0);
        due("the other", inn.bells(001, NONE), NONE);
        for (int k : new int[] {-2, LEAST_INT}) {
            dueThrow("k " + k, ARGUMENT, () -> inn.bells(010, k));
            dueThrow("to SEATS, k " + k, ARGUMENT, () -> inn.bells(NONE, k));
        }
        PinInn full = Inn.of("room 0 0 1;room 0 0 1;guest 1 in 0;guest 1 in 0");
        dueThrow("as it is, but no SEATING", ARGUMENT, () -> full.bells(0, NONE));
        due("nobody", new PinInn().bells(0, NONE), 0);
        dueThrow("nobody, a figure too many", ARGUMENT, () -> new PinInn().bells(1, NONE));
        PinInn most = Inn.of(lines("room 0 0 4", 8), lines("guest 1 in 0", 5));
        due("the last ROOMS", most.bells(077776, NONE), 5);
        dueThrow("more than BEDS in it", ARGUMENT, () -> most.bells(077777, NONE));
        dueThrow("a sixth figure", ARGUMENT, () -> most.bells(0176777, NONE));
    }

    private static void stoveSteps() {
        // around 5 5: east, west, north, south one step off; across, two off and on the same place not
        PinInn inn = Inn.of("room 5 5 1;room 6 5 1;room 4 5 1;room 5 6 1;room 5 4 1;room 6 6 1;room 7 5 1;room 5 5 1;stove 1 in 0;bound 999");
        int[] bells = {0, 1, 1, 1, 1, 2, 2, 2};
        for (int r = 0; r < 8; r++) {
            due("stove(" + r + ")", inn.stove(r), bells[r]);
        }
        PinInn apart = Inn.of("room 0 0 1;room 1 1 1;room 2 0 1;room 0 2 1;room 0 0 1");
        for (int r = 1; r < 5; r++) {
            due("no step to ROOM " + r, apart.stove(r), NONE);
        }
        PinInn pin = Inn.of(CROSS, "stove 1 in 1");
        due("over the pin from west to east", pin.stove(0), 2);
        due("over the pin from west to south", pin.stove(3), 2);
        PinInn row = Inn.of("room 9 0 1;room 8 0 1;room 7 0 1;room 6 0 1;room 5 0 1;room 4 0 1;room 3 0 1;room 2 0 1;stove 1 in 0");
        due("seven steps", row.stove(7), 7);
        due("nothing stays", row.count(6), 0);
    }

    private static void stoveLevel() {
        PinInn inn = Inn.of("room 0 0 1;room 1 0 1;stove 30 in 0;bound 30");
        due("just LEVEL there", inn.stove(1), 1);
        Inn.house(inn, "bound 29");
        due("not LEVEL there", inn.stove(1), NONE);
        Inn.house(inn, "stove 30 in 1");
        due("it is there, though not LEVEL", inn.stove(1), 0);
        due("what it is now need not be LEVEL", inn.stove(0), 1);
        PinInn helped = Inn.of("room 0 0 4;room 1 0 4;room 1 0 4;west 2;guest 1 in 0;guest 1 in 0;guest 1 in 0;guest 1 in 0;stove 30 in 0;bound 29");
        due("4 GUESTS, one helps first", helped.stove(1), 2);
        Inn.house(helped, "bound 26");
        due("all 4 help", helped.stove(1), 5);
        Inn.house(helped, "bound 25");
        due("4 are not enough", helped.stove(1), NONE);
        PinInn full = Inn.of("room 0 0 1;room 1 0 1;guest 1 in 0;guest 1 in 0;stove 5 in 0");
        due("there, though it is no SEATING", full.stove(0), 0);
        due("first it must be a SEATING", full.stove(1), 2);
        Inn.house(full, "room 0 1 1;guest 1 in 0");
        due("one bell does not make it one", full.stove(1), NONE);
        PinInn trunks = Inn.of("room 0 0 1;room 1 0 1;trunk 0 to 10 in 1;stove 30 in 0;bound 40");
        due("at the worst just BOUND", trunks.stove(1), 1);
        Inn.house(trunks, "bound 39");
        due("at the worst beyond", trunks.stove(1), NONE);
    }

    private static void fiveGuests() {
        PinInn inn = Inn.of("room 0 0 4;room 1 0 4;" + lines("guest 1 in 0", 4));
        due("4 GUESTS", inn.stove(1), 1);
        Inn.house(inn, "guest 1 in 0");
        due("5 GUESTS", inn.stove(1), -3);
        due("5 GUESTS, and it is there", inn.stove(0), -3);
        refused(inn, "5 GUESTS, no such ROOM", INDEX, () -> inn.stove(2));
        due("nobody", Inn.of("room 0 0 4;room 0 1 4").stove(1), 1);
    }

    private static void wake() {
        PinInn inn = Inn.of(CROSS, "guest 10 in 0;guest 10 in 0;guest 10 in 4;bound 20");
        due("LEVEL so: nobody", inn.wake(false), 0);
        due("as it is", inn.wake(true), 0400);
        Inn.house(inn, "bound 19");
        due("one", inn.wake(false), 1);
        // GUEST 0 stays in 0: either GUEST 1 goes to 1, 2 or 3 (4 is full), or GUEST 2 goes west, with GUEST 1 in 0
        due("the first: GUESTS 0 and 1 stay in 0, GUEST 2 goes west", inn.wake(true), 0100);
        due("nothing stays", inn.seating(), 0400);
        PinInn beds = Inn.of("room 0 0 1;room 0 0 4", lines("guest 1 in 0", 5));
        due("LEVEL, but 4 too many for the bed", beds.wake(false), 4);
        due("GUEST 0 stays", beds.wake(true), 011110);
        PinInn five = Inn.of("room 1 0 4;room 1 0 4;west 1;room 1 0 4;west 2", lines("guest 100 in 0", 5), "snow 0 100;bound 0");
        due("3 in the west against 2 and SNOW", five.wake(false), 3);
        due("the first", five.wake(true), 011100);
        Inn.house(five, "snow 0 500");
        due("all five", five.wake(false), 5);
        due("the first: 4 in ROOM 1", five.wake(true), 021111);
        Inn.house(five, "snow 0 501");
        due("five are not enough", five.wake(false), NONE);
        PinInn none = Inn.of("room 1 0 1;guest 10 in 0;bound 9");
        due("none", none.wake(false), NONE);
        due("none", none.wake(true), NONE);
        PinInn trunks = Inn.of(SIDES, "guest 10 in 0;trunk 0 to 5 in 0;bound 14");
        due("at the worst", trunks.wake(false), 1);
        Inn.house(trunks, "bound 15");
        due("at the worst just BOUND", trunks.wake(false), 0);
    }

    private static void wakeAnswers() {
        due("nobody there", new PinInn().wake(false), 0);
        due("nobody there", new PinInn().wake(true), 0);
        PinInn snow = Inn.of("room 1 0 1;snow 0 9;bound 8");
        due("nobody can help", snow.wake(false), NONE);
        due("nobody can help", snow.wake(true), NONE);
        PinInn inn = Inn.of(SIDES, "guest 10 in 0;guest 10 in 0;bound 0");
        due("how many", inn.wake(false), 1);
        due("the SEATING", inn.wake(true), 010);
    }
}
