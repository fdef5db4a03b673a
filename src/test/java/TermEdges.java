/** Edges of 'Terms': how many of each thing there may be, and from where to where each number goes. */
final class TermEdges extends Edges {
    private static final String ROOM = "room 1 1 1";
    private static final String GUEST = "guest 5 in 0";
    private static final String TRUNK = "trunk 1 to 2 in 0";

    private TermEdges() {
    }

    static void all() {
        edge(4, "ROOMS (at most 8, numbered from 0 on):", TermEdges::rooms);
        edge(4, "X and Y (- 9 to 9) from the pin,", TermEdges::places);
        edge(4, "BEDS (1 to 4),", TermEdges::beds);
        edge(4, "SNOW (0 to 999; 0 at first).", TermEdges::snow);
        edge(8, "FAR: X and Y together, without signs.", TermEdges::far);
        edge(4, "GUESTS (at most 5, numbered from 0 on):", TermEdges::guests);
        edge(4, "WEIGHT (1 to 200), a ROOM.", TermEdges::guestWeight);
        edge(4, "TRUNKS (at most 6, numbered from 0 on):", TermEdges::trunks);
        edge(4, "WEIGHT from LEAST to MOST (0 to 300), a ROOM.", TermEdges::trunkWeight);
        edge(4, "THE STOVE: WEIGHT 0 to 999 (0 at first), a ROOM (0 at first).", TermEdges::stove);
        edge(4, "BOUND (0 to 99999; 1000 at first),", TermEdges::bound);
        edge(4, "SLIDE (0 to 99999; 2000 at first).", TermEdges::slide);
        edge(12, "MOMENT by X (or Y): of all GUESTS, SNOW, THE STOVE: WEIGHT times X (Y) of their ROOM, together (NET);",
            TermEdges::net);
        edge(12, "of TRUNKS so much at least and at most (each as it makes the MOMENT less, or more): LOW and HIGH.",
            TermEdges::lowAndHigh);
        edge(13, "LEVEL: LOW and HIGH by X and by Y are all - BOUND to BOUND.", TermEdges::level);
        edge(18, "A SEATING: a ROOM for each GUEST, no more in one than it has BEDS.", TermEdges::seating);
        edge(14, "A SEATING is told as a number: ROOMS of GUESTS as its figures, of base 8, GUEST 0 the last one.",
            TermEdges::number);
    }

    private static void rooms() {
        due("none", new PinInn().count(0), 0);
        due("8 in a text", Inn.of(lines(ROOM, 8)).count(0), 8);
        due("8 in two texts", Inn.of(lines(ROOM, 7), ROOM).count(0), 8);
        wrongAfter("", lines(ROOM, 8) + ";^" + ROOM);
        wrongAfter(lines(ROOM, 3), lines(ROOM, 5) + ";^" + ROOM);
        wrongAfter(lines(ROOM, 8), "^" + ROOM, "bound 5;^room 1 1 1", "  ^room");
        PinInn inn = Inn.of("room 0 9 1;room 1 8 1;room 2 7 1;room 3 6 1;room 4 5 1", "room 5 4 1;room 6 3 1;room 7 2 1");
        for (int r = 0; r < 8; r++) {
            due("room(" + r + ", 0)", inn.room(r, 0), r);
            due("room(" + r + ", 1)", inn.room(r, 1), 9 - r);
        }
        rightAfter(lines(ROOM, 8), "guest 5 in 7", "stove 5 in 7", "snow 7 5", "west 7", "south 7");
        wrongAfter(lines(ROOM, 8), "guest 5 in ^8", "stove 5 in ^8", "snow ^8 5", "west ^8", "south ^8");
    }

    private static void places() {
        int[] ends = {0, 9};
        for (int x : ends) {
            for (int y : ends) {
                PinInn inn = Inn.of("room " + x + " " + y + " 1");
                due("x", inn.room(0, 0), x);
                due("y", inn.room(0, 1), y);
                Inn.house(inn, "west 0;south 0");
                due("x in the west", inn.room(0, 0), -x);
                due("y in the south", inn.room(0, 1), -y);
            }
        }
        wrongAfter("", "room ^10 9 1", "room 9 ^10 1", "room ^-1 0 1", "room 0 ^-1 1", "room ^99999 0 1");
    }

    private static void beds() {
        for (int beds = 1; beds <= 4; beds++) {
            due("beds", Inn.of("room 0 0 " + beds).room(0, 2), beds);
        }
        wrongAfter("", "room 0 0 ^0", "room 0 0 ^5", "room 0 0 ^99999", "room 0 0 ^-1");
    }

    private static void snow() {
        PinInn inn = Inn.of("room 0 0 1;room 0 0 1");
        due("at first", inn.room(0, 3) + inn.room(1, 3), 0);
        Inn.house(inn, "snow 1 999");
        due("999", inn.room(1, 3), 999);
        due("of the other", inn.room(0, 3), 0);
        Inn.house(inn, "snow 1 0");
        due("0 again", inn.room(1, 3), 0);
        wrongAfter("room 0 0 1", "snow 0 ^1000", "snow 0 ^-1", "snow 0 ^99999");
        inn.image();
        Inn.house(inn, "room 0 0 1;snow 2 999");
        inn.back();
        Inn.house(inn, "room 0 0 1");
        due("of a new ROOM in the place of one that is gone", inn.room(2, 3), 0);
    }

    private static void far() {
        int[][] places = {{0, 0}, {9, 0}, {0, 9}, {9, 9}, {1, 2}};
        for (int[] at : places) {
            PinInn inn = Inn.of("room " + at[0] + " " + at[1] + " 1");
            String[] turns = {"", "west 0", "south 0", "west 0"};
            for (String turn : turns) {
                Inn.house(inn, turn);
                due("FAR of " + inn.room(0, 0) + " " + inn.room(0, 1), inn.room(0, 4), at[0] + at[1]);
            }
        }
    }

    private static void guests() {
        due("none", Inn.of(ROOM).count(1), 0);
        due("5 in a text", Inn.of(ROOM, lines(GUEST, 5)).count(1), 5);
        due("5 in two texts", Inn.of(ROOM, lines(GUEST, 4), GUEST).count(1), 5);
        wrongAfter(ROOM, lines(GUEST, 5) + ";^" + GUEST);
        wrongAfter(ROOM + ";" + lines(GUEST, 5), "^" + GUEST, "bound 5 ; ^guest", " ^guest x");
        PinInn inn = Inn.of(lines(ROOM, 8), "guest 1 in 7;guest 1 in 2;guest 1 in 0;guest 1 in 5", "guest 1 in 3");
        int[] rooms = {7, 2, 0, 5, 3};
        for (int g = 0; g < 5; g++) {
            due("where(" + g + ")", inn.where(g), rooms[g]);
        }
    }

    private static void guestWeight() {
        due("1", Inn.of("room 1 0 1;guest 1 in 0").moment(false, 0), 1);
        due("200", Inn.of("room 1 0 1;guest 200 in 0").moment(false, 0), 200);
        wrongAfter(ROOM, "guest ^0 in 0", "guest ^201 in 0", "guest ^-1 in 0", "guest ^99999 in 0");
    }

    private static void trunks() {
        due("none", Inn.of(ROOM).count(2), 0);
        due("6 in a text", Inn.of(ROOM, lines(TRUNK, 6)).count(2), 6);
        due("6 in two texts", Inn.of(ROOM, lines(TRUNK, 5), TRUNK).count(2), 6);
        wrongAfter(ROOM, lines(TRUNK, 6) + ";^" + TRUNK);
        wrongAfter(ROOM + ";" + lines(TRUNK, 6), "^" + TRUNK, "slide 5;^trunk", " ^trunk 1 to");
        PinInn inn = Inn.of(lines(ROOM, 8), "trunk 1 to 2 in 7;trunk 3 to 4 in 6;trunk 5 to 6 in 5;trunk 7 to 8 in 4",
            "trunk 9 to 10 in 3;trunk 11 to 12 in 2");
        for (int t = 0; t < 6; t++) {
            due("trunk(" + t + ", 0)", inn.trunk(t, 0), 2 * t + 1);
            due("trunk(" + t + ", 1)", inn.trunk(t, 1), 2 * t + 2);
            due("trunk(" + t + ", 2)", inn.trunk(t, 2), 7 - t);
        }
    }

    private static void trunkWeight() {
        int[][] bounds = {{0, 0}, {0, 300}, {300, 300}, {299, 300}};
        for (int[] bound : bounds) {
            PinInn inn = Inn.of(ROOM, "trunk " + bound[0] + " to " + bound[1] + " in 0");
            due("LEAST", inn.trunk(0, 0), bound[0]);
            due("MOST", inn.trunk(0, 1), bound[1]);
        }
        wrongAfter(ROOM, "trunk ^301 to 301 in 0", "trunk 0 to ^301 in 0", "trunk 300 to ^301 in 0", "trunk ^-1 to 5 in 0");
    }

    private static void stove() {
        PinInn inn = new PinInn();
        due("ROOM at first, though there is none", inn.count(6), 0);
        due("WEIGHT at first", inn.count(7), 0);
        Inn.house(inn, "room 1 0 1;room 1 0 1;room 1 0 1");
        due("ROOM at first", inn.count(6), 0);
        due("nothing weighs", inn.moment(false, 0), 0);
        Inn.house(inn, "stove 999 in 2");
        due("WEIGHT", inn.count(7), 999);
        due("ROOM", inn.count(6), 2);
        due("it weighs", inn.moment(false, 0), 999);
        Inn.house(inn, "stove 0 in 0");
        due("WEIGHT", inn.count(7), 0);
        due("ROOM", inn.count(6), 0);
        wrongAfter(ROOM, "stove ^1000 in 0", "stove ^-1 in 0", "stove ^99999 in 0");
        wrongAfter("", "stove 0 in ^0");
    }

    private static void bound() {
        due("at first", new PinInn().count(8), 1000);
        due("0", Inn.of("bound 0").count(8), 0);
        due("99999", Inn.of("bound 99999").count(8), 99999);
        wrongAfter("", "bound ^100000", "bound ^-1");
        PinInn inn = Inn.of("room 5 0 1;room 1 0 1;guest 200 in 0");
        due("1000 is LEVEL at first", inn.level(), true);
        Inn.house(inn, "snow 1 1");
        due("1001 is not", inn.level(), false);
        due("0 of 0", Inn.of("bound 0").level(), true);
        due("1 of 0", Inn.of("bound 0;room 1 0 1;guest 1 in 0").level(), false);
    }

    private static void slide() {
        due("at first", new PinInn().count(9), 2000);
        due("0", Inn.of("slide 0").count(9), 0);
        due("99999", Inn.of("slide 99999").count(9), 99999);
        wrongAfter("", "slide ^100000", "slide ^-1");
        PinInn inn = Inn.of("room 4 0 1;room 1 0 1;snow 0 500;trunk 1 to 1 in 1");
        due("2000 slides nothing at first", inn.day(1), 0);
        Inn.house(inn, "snow 1 1");
        due("2001 does", inn.day(1), 1);
    }

    private static void net() {
        due("nothing", new PinInn().moment(false, 0), 0);
        due("nothing by Y", new PinInn().moment(true, 0), 0);
        PinInn most = new PinInn();
        Inn.house(most, lines("room 9 9 4", 8));
        for (int r = 0; r < 8; r++) {
            Inn.house(most, "snow " + r + " 999");
        }
        Inn.house(most, lines("guest 200 in 7", 5) + ";stove 999 in 3");
        due("the most by X", most.moment(false, 0), 9 * (8 * 999 + 5 * 200 + 999));
        due("the most by Y", most.moment(true, 0), 9 * (8 * 999 + 5 * 200 + 999));
        PinInn least = Inn.of("room 9 8 1;west 0;south 0;guest 200 in 0;snow 0 999;stove 999 in 0;trunk 300 to 300 in 0");
        due("below 0 by X", least.moment(false, 0), -9 * (200 + 999 + 999));
        due("below 0 by Y", least.moment(true, 0), -8 * (200 + 999 + 999));
        PinInn pin = Inn.of("room 0 0 1;guest 200 in 0;snow 0 999;stove 999 in 0");
        due("on the pin", pin.moment(false, 0), 0);
        PinInn axis = Inn.of("room 0 7 1;guest 10 in 0");
        due("X is 0", axis.moment(false, 0), 0);
        due("Y is 7", axis.moment(true, 0), 70);
    }

    private static void lowAndHigh() {
        String[] sides = {"room 3 0 1;guest 10 in 0", "room 3 0 1;west 0;guest 10 in 0"};
        int[] low = {30 + 3 * 5, -30 - 3 * 20};
        int[] high = {30 + 3 * 20, -30 - 3 * 5};
        for (int i = 0; i < 2; i++) {
            PinInn inn = Inn.of(sides[i], "trunk 5 to 20 in 0");
            due("LOW", inn.moment(false, 1), low[i]);
            due("HIGH", inn.moment(false, 2), high[i]);
            due("LOW by Y", inn.moment(true, 1), 0);
            due("HIGH by Y", inn.moment(true, 2), 0);
        }
        PinInn both = Inn.of("room 1 0 1;room 1 0 1;west 1;trunk 0 to 300 in 0;trunk 0 to 300 in 1");
        due("each as it makes it less", both.moment(false, 1), -300);
        due("each as it makes it more", both.moment(false, 2), 300);
        PinInn north = Inn.of("room 0 2 1;room 0 3 1;south 1;trunk 1 to 4 in 0;trunk 10 to 20 in 1");
        due("LOW by Y", north.moment(true, 1), 2 - 60);
        due("HIGH by Y", north.moment(true, 2), 8 - 30);
        PinInn none = Inn.of("room 3 0 1;guest 10 in 0");
        due("no TRUNK: LOW is NET", none.moment(false, 1), 30);
        due("no TRUNK: HIGH is NET", none.moment(false, 2), 30);
    }

    private static void level() {
        due("nothing", new PinInn().level(), true);
        String[] sides = {"room 1 0 1;room 1 0 1;west 1", "room 0 1 1;room 0 1 1;south 1"};
        for (String side : sides) {
            due("HIGH just BOUND", Inn.of(side, "guest 30 in 0;trunk 0 to 10 in 0;bound 40").level(), true);
            due("HIGH beyond", Inn.of(side, "guest 30 in 0;trunk 0 to 10 in 0;bound 39").level(), false);
            due("LOW just - BOUND", Inn.of(side, "guest 30 in 1;trunk 0 to 10 in 1;bound 40").level(), true);
            due("LOW beyond", Inn.of(side, "guest 30 in 1;trunk 0 to 10 in 1;bound 39").level(), false);
            // NET itself is beyond, but TRUNKS right it however they weigh: LOW -20, HIGH 20
            due("NET may be beyond", Inn.of(side, "guest 90 in 0;trunk 70 to 110 in 1;bound 20").level(), true);
            due("HIGH alone is beyond", Inn.of(side, "guest 90 in 0;trunk 69 to 110 in 1;bound 20").level(), false);
            due("LOW alone is beyond", Inn.of(side, "guest 90 in 0;trunk 70 to 111 in 1;bound 20").level(), false);
        }
    }

    private static void seating() {
        for (int beds = 1; beds <= 4; beds++) {
            PinInn inn = Inn.of("room 0 0 " + beds);
            for (int guests = 0; guests <= 5; guests++) {
                due(guests + " GUESTS, " + beds + " BEDS", inn.seats(2), guests <= beds ? 1 : 0);
                if (guests < 5) {
                    Inn.house(inn, "guest 1 in 0");
                }
            }
        }
        due("5 GUESTS in 8 ROOMS of 4", Inn.of(lines("room 0 0 4", 8), lines(GUEST, 5)).seats(2), 8 * 8 * 8 * 8 * 8 - 8);
        due("5 GUESTS in 8 ROOMS of 1", Inn.of(lines("room 0 0 1", 8), lines(GUEST, 5)).seats(2), 8 * 7 * 6 * 5 * 4);
    }

    private static void number() {
        due("nobody", new PinInn().seating(), 0);
        PinInn inn = Inn.of(lines("room 0 0 1", 8), "guest 1 in 1");
        due("one", inn.seating(), 1);
        Inn.house(inn, "guest 1 in 2");
        due("two", inn.seating(), 021);
        Inn.house(inn, "guest 1 in 3;guest 1 in 4;guest 1 in 5");
        due("five", inn.seating(), 054321);
        for (int g = 0; g < 5; g++) {
            inn.go(g, 7);
        }
        due("the most", inn.seating(), 077777);
        inn.go(4, 0);
        due("GUEST 4 the first figure", inn.seating(), 07777);
        inn.go(0, 0);
        due("GUEST 0 the last figure", inn.seating(), 07770);
    }
}
