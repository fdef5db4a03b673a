/** Edges of promises 16 and 17: a DAY by THE BOOK. */
final class DayEdges extends Edges {
    /** Five places from west to east on the pin's line: -2 -1 0 1 2 are ROOMS 0 to 4. */
    private static final String ROW = "room 2 0 1;west 0;room 1 0 1;west 1;room 0 0 1;room 1 0 1;room 2 0 1";

    private DayEdges() {
    }

    static void all() {
        edge(16, "A DAY by it, from now on (nothing stays, unless it is done):", DayEdges::fromNowOn);
        edge(16, "MINUTE by MINUTE from 0 to 999:", DayEdges::minutes);
        edge(16, "GUESTS walk as told (BEDS are not looked at);", DayEdges::walk);
        edge(16, "then, if NET by X is above SLIDE (below - SLIDE), each TRUNK, by numbers, SLIDES to the ROOM of the same Y with the next greater (less) X,",
            DayEdges::slides);
        edge(16, "of several of one place the least, if there is one;", DayEdges::leastIfOne);
        edge(16, "then likewise by Y (the same X).", DayEdges::byY);
        edge(16, "(NET as it is ahead of both, for each of X and Y; TRUNKS do not count.)", DayEdges::netAhead);
        edge(16, "SPILLED: the first MINUTE at whose end it is not LEVEL; none.", DayEdges::spilled);
        edge(16, "SLID: how often TRUNKS did.", DayEdges::slid);
        edge(16, "A DAY by THE BOOK what 0 SPILLED (NONE), 1 SLID, 2 the SEATING at its end, 3 the ROOM of TRUNK 0 at its end (NONE without).",
            DayEdges::whats);
        edge(16, "NoSuchElementException: another what.", DayEdges::anotherWhat);
        edge(17, "It is done: all is as at the end of the DAY: SPILLED.", DayEdges::live);
    }

    private static void fromNowOn() {
        PinInn inn = Inn.of(ROW, "guest 10 in 2;trunk 1 to 1 in 2;slide 5;bound 15");
        Inn.book(inn, "at 3 0 to 4");
        String before = look(inn);
        due("SPILLED", inn.day(0), 3);
        due("SLID", inn.day(1), 2);
        due("nothing stays", look(inn).equals(before), true);
        due("again", inn.day(1), 2);
        inn.go(0, 1);
        due("from where he is now: west and then east", inn.day(1), 2 + 4);
        due("SPILLED", inn.day(0), 3);
        Inn.book(inn, "");
        due("no LINE: he stays in the west", inn.day(3), 0);
    }

    private static void minutes() {
        PinInn inn = Inn.of(ROW, "guest 10 in 2;trunk 1 to 1 in 2;slide 5;bound 9");
        Inn.book(inn, "at 0 0 to 3");
        due("in MINUTE 0", inn.day(0), 0);
        due("it slides twice", inn.day(1), 2);
        Inn.book(inn, "at 999 0 to 3");
        due("in MINUTE 999", inn.day(0), 999);
        due("it slides once, then the DAY ends", inn.day(1), 1);
        due("there it lies", inn.day(3), 3);
        Inn.book(inn, "at 998 0 to 3");
        due("in MINUTE 998", inn.day(0), 998);
        due("it slides in both", inn.day(1), 2);
        Inn.book(inn, "at 0 0 to 3;at 1 0 to 2;at 999 0 to 1");
        due("east once, west once", inn.day(1), 2);
        due("on the pin", inn.day(3), 2);
    }

    private static void walk() {
        PinInn inn = Inn.of("room 0 0 1;room 0 0 1;" + lines("guest 1 in 0", 5));
        Inn.book(inn, "at 5 0 to 1;at 5 1 to 1;at 5 2 to 1;at 6 3 to 1;at 7 4 to 1");
        due("all into one bed", inn.day(2), 011111);
        Inn.book(inn, "at 5 0 to 1;at 5 0 to 0;at 5 0 to 1");
        due("as the last LINE says", inn.day(2), 1);
        Inn.book(inn, "at 5 0 to 1;at 900 0 to 0");
        due("and back", inn.day(2), 0);
        Inn.book(inn, "at 5 3 to 0");
        due("where he is already", inn.day(2), 0);
    }

    private static void slides() {
        String trunk = ";trunk 1 to 1 in 2;bound 99999";
        PinInn east = Inn.of(ROW, "guest 10 in 3;slide 10" + trunk);
        due("just SLIDE is not above", east.day(1), 0);
        Inn.house(east, "slide 9");
        due("one above: to the next, then to the last", east.day(1), 2);
        due("there", east.day(3), 4);
        PinInn west = Inn.of(ROW, "guest 10 in 1;slide 10" + trunk);
        due("just - SLIDE is not below", west.day(1), 0);
        Inn.house(west, "slide 9");
        due("one below", west.day(1), 2);
        due("there", west.day(3), 0);
        PinInn zero = Inn.of(ROW, "guest 10 in 2;slide 0" + trunk);
        due("NET 0 is not above 0", zero.day(1), 0);
        Inn.house(zero, "snow 3 1");
        due("NET 1 is", zero.day(1), 2);
        Inn.house(zero, "snow 1 2");
        due("NET -1 is below", zero.day(3), 0);
        PinInn six = Inn.of(ROW, "guest 10 in 3;slide 9;bound 99999;" + lines("trunk 1 to 1 in 3", 6));
        due("each TRUNK", six.day(1), 6);
        // at 0 0, with 9 0 told ahead of 1 0: the next greater is 1; 5 1 and 0 5 are on another line
        PinInn next = Inn.of("room 0 0 1;room 9 0 1;room 1 0 1;room 5 1 1;room 0 5 1;room 0 0 1;trunk 1 to 1 in 0;slide 0;bound 99999");
        Inn.house(next, "snow 2 1;guest 1 in 5");
        Inn.book(next, "at 1 0 to 5");
        next.image();
        due("to 1, then to 9", next.day(1), 2);
        Inn.house(next, "west 2;snow 1 1");
        due("past the one that is west", next.day(1), 1);
        due("there", next.day(3), 1);
    }

    private static void leastIfOne() {
        PinInn inn = Inn.of("room 0 0 1;room 3 0 1;room 3 0 1;room 3 0 1;guest 1 in 2;trunk 1 to 1 in 0;slide 0;bound 99999");
        due("ROOMS 1, 2 and 3 are of one place", inn.day(3), 1);
        due("and it slides no further", inn.day(1), 1);
        PinInn back = Inn.of("room 3 0 1;room 3 0 1;room 0 0 1;west 0;west 1;guest 1 in 1;trunk 1 to 1 in 2;slide 0;bound 99999");
        due("likewise in the west", back.day(3), 0);
        PinInn near = Inn.of("room 9 0 1;room 0 0 1;room 4 0 1;room 4 0 1;guest 1 in 0;trunk 1 to 1 in 1;slide 0;bound 99999");
        Inn.book(near, "at 999 0 to 0");
        due("the next of several, then the last", near.day(1), 2);
        due("there", near.day(3), 0);
        Inn.house(near, "slide 8;snow 2 0");
        Inn.book(near, "at 0 0 to 1;at 999 0 to 0");
        due("only in the last MINUTE: ROOM 2 of 2 and 3", near.day(3), 2);
        PinInn none = Inn.of("room 1 0 1;room 1 5 1;room 0 1 1;guest 9 in 0;trunk 1 to 1 in 0;slide 8;bound 99999");
        due("there is none", none.day(1), 0);
        due("it stays", none.day(3), 0);
    }

    private static void byY() {
        String column = "room 0 2 1;south 0;room 0 1 1;south 1;room 0 0 1;room 0 1 1;room 0 2 1";
        PinInn north = Inn.of(column, "guest 10 in 3;slide 10;trunk 1 to 1 in 2;bound 99999");
        due("just SLIDE", north.day(1), 0);
        Inn.house(north, "slide 9");
        due("above", north.day(3), 4);
        PinInn south = Inn.of(column, "guest 10 in 1;slide 10;trunk 1 to 1 in 2;bound 99999");
        due("just - SLIDE", south.day(1), 0);
        Inn.house(south, "slide 9");
        due("below", south.day(3), 0);
        Inn.house(south, "room 0 2 1;south 5");
        due("of several the least", south.day(3), 0);
        // from 0 0 first east to 1 0, then north to 1 1, both in one MINUTE; north first would lead to 0 1
        PinInn both = Inn.of("room 0 0 1;room 1 0 1;room 1 1 1;room 0 1 1;guest 9 in 2;trunk 1 to 1 in 0;slide 8;bound 99999");
        Inn.book(both, "at 0 0 to 0;at 999 0 to 2");
        due("by X, then by Y", both.day(3), 2);
        due("twice", both.day(1), 2);
        PinInn order = Inn.of("room 0 0 1;room 0 1 1;room 1 1 1;guest 9 in 2;trunk 1 to 1 in 0;slide 8;bound 99999");
        Inn.book(order, "at 0 0 to 0;at 999 0 to 2");
        due("by Y alone, then no more by X", order.day(3), 1);
        due("once", order.day(1), 1);
    }

    private static void netAhead() {
        PinInn heavy = Inn.of(ROW, "trunk 300 to 300 in 3;trunk 300 to 300 in 4;slide 0;bound 99999");
        due("TRUNKS alone slide nothing", heavy.day(1), 0);
        Inn.house(heavy, "guest 1 in 1");
        due("a light GUEST in the west does", heavy.day(1), 3 + 4);
        // NET 9 by X and 9 by Y; what slid by X does not count when it slides by Y
        PinInn both = Inn.of("room 1 1 1;room 0 0 1;room 1 0 1;room 0 1 1;guest 9 in 0;trunk 300 to 300 in 1;slide 8;bound 99999");
        due("by both", both.day(1), 2);
        due("there", both.day(3), 0);
    }

    private static void spilled() {
        PinInn none = Inn.of(ROW, "guest 10 in 2;bound 10");
        Inn.book(none, "at 5 0 to 3;at 6 0 to 1");
        due("none", none.day(0), NONE);
        Inn.house(none, "bound 9");
        due("the first", none.day(0), 5);
        Inn.book(none, "at 5 0 to 2;at 9 0 to 3;at 9 0 to 2;at 30 0 to 1;at 31 0 to 2;at 32 0 to 4");
        due("the first at whose END it is not", none.day(0), 30);
        none.go(0, 3);
        due("as it is now, ahead of MINUTE 0, counts at its end", none.day(0), 0);
        Inn.book(none, "at 0 0 to 2");
        due("he walks in time", none.day(0), NONE);
        // NET 30, but the TRUNK makes it -70 until it slides onto the pin in MINUTE 0
        PinInn righted = Inn.of("room 1 0 1;room 0 0 1;room 1 0 1;west 2;guest 30 in 0;trunk 100 to 100 in 2;bound 40;slide 30");
        due("not LEVEL at the end of MINUTE 0", righted.day(0), 0);
        Inn.house(righted, "slide 29;bound 130");
        due("LEVEL at each end", righted.day(0), NONE);
        Inn.house(righted, "room 0 5 1;room 0 0 1;bound 129");
        due("in MINUTE 1 it lies in the east", righted.day(0), 1);
        // NET -30, LOW -20 with the TRUNK in the east
        PinInn worse = Inn.of("room 1 0 1;room 2 0 1;west 1;room 5 0 1;west 2;guest 20 in 1;stove 10 in 0;trunk 10 to 10 in 0;bound 20;slide 30");
        due("nothing slides", worse.day(0), NONE);
        Inn.house(worse, "bound 49;slide 29");
        // NET -30 is below -29: in MINUTE 0 to -2 (LOW -50), in MINUTE 1 to -5 (LOW -80)
        due("what slides spills it, in MINUTE 0", worse.day(0), 0);
        Inn.house(worse, "bound 79");
        due("or in MINUTE 1", worse.day(0), 1);
        Inn.house(worse, "bound 80");
        due("or never", worse.day(0), NONE);
        PinInn back = Inn.of("room 1 0 1;room 2 0 1;guest 10 in 0;trunk 0 to 5 in 0;slide 9;bound 20");
        due("MOST counts: 10 and 2 times 5 is just 20", back.day(0), NONE);
        Inn.house(back, "bound 19");
        due("one less", back.day(0), 0);
    }

    private static void slid() {
        PinInn none = Inn.of(ROW, "guest 10 in 4;slide 0;bound 99999");
        due("no TRUNK", none.day(1), 0);
        PinInn six = Inn.of(ROW, "guest 10 in 4;slide 0;bound 99999;" + lines("trunk 0 to 0 in 0", 6));
        due("6 TRUNKS, 4 times each", six.day(1), 24);
        StringBuilder book = new StringBuilder("at 0 0 to 4");
        for (int i = 1; i < 20; i++) {
            book.append(";at ").append(50 * i).append(i % 2 == 0 ? " 0 to 4" : " 0 to 0");
        }
        Inn.book(six, book.toString());
        due("20 times from end to end", six.day(1), 20 * 24);
    }

    private static void whats() {
        PinInn inn = Inn.of(ROW, "guest 10 in 2;guest 1 in 4;trunk 1 to 1 in 2;trunk 1 to 1 in 3;slide 9;bound 20");
        Inn.book(inn, "at 7 0 to 3");
        // NET 12 from MINUTE 7 on (2 before): TRUNK 0 slides twice, TRUNK 1 once; NET 12 and 2 and 2 are LEVEL
        due("what 0", inn.day(0), NONE);
        due("what 1", inn.day(1), 3);
        due("what 2", inn.day(2), 043);
        due("what 3", inn.day(3), 4);
        Inn.house(inn, "bound 15");
        due("what 0: at 8 both lie at 2", inn.day(0), 8);
        PinInn without = Inn.of(ROW, "guest 10 in 2");
        due("what 3 without a TRUNK", without.day(3), NONE);
    }

    private static void anotherWhat() {
        PinInn inn = Inn.of(ROW, "guest 10 in 3;trunk 1 to 1 in 2;slide 9");
        refused(inn, "day(4)", ELEMENT, () -> inn.day(4));
        for (int what : new int[] {-1, LEAST_INT, MOST_INT}) {
            dueThrow("day(" + what + ")", ELEMENT, () -> inn.day(what));
        }
    }

    private static void live() {
        due("nothing", new PinInn().live(), NONE);
        PinInn inn = Inn.of(ROW, "guest 10 in 2;guest 1 in 2;trunk 1 to 1 in 2;trunk 1 to 1 in 3;slide 9;bound 13;snow 2 9;stove 5 in 2");
        Inn.book(inn, "at 7 0 to 3;at 9 1 to 4");
        int spilled = inn.day(0);
        int seating = inn.day(2);
        due("SPILLED: 10, 2 and 2 in MINUTE 8", spilled, 8);
        due("it is SPILLED", inn.live(), spilled);
        due("SEATING", inn.seating(), seating);
        due("SEATING", seating, 043);
        due("TRUNK 0", inn.trunk(0, 2), 4);
        due("TRUNK 1", inn.trunk(1, 2), 4);
        due("SNOW is as it was", inn.room(2, 3), 9);
        due("THE STOVE is as it was", inn.count(6), 2);
        due("THE BOOK is as it was", inn.count(4), 2);
        due("from there on: not LEVEL at once", inn.live(), 0);
        due("nothing slides any more", inn.day(1), 0);
        PinInn level = Inn.of(ROW, "guest 10 in 2");
        Inn.book(level, "at 999 0 to 0");
        due("NONE", level.live(), NONE);
        due("he is there", level.where(0), 0);
    }
}
