import java.util.function.Consumer;

/** Edges of promises 30 to 36: NIGHT, MELTS, SEED, RENT, THE IMAGE and count. */
final class KeepEdges extends Edges {
    /** What is drawn from SEED 1 on, as many a C library's rand() tells it too. */
    private static final int[] DRAWN = {16838, 5758, 10113, 17515, 31051, 5627, 23010, 7419, 16212, 4086};

    private KeepEdges() {
    }

    static void all() {
        edge(30, "NIGHT: SNOW: on each ROOM by numbers DRAW modulo N (1 to 500) more (999 at most):", KeepEdges::night);
        edge(30, "SEED is 1103515245 times SEED and 12345, as an int that goes round; bits 16 to 30 (SEED 1 at first).", KeepEdges::draw);
        edge(30, "A NIGHT: how much SNOW fell.", KeepEdges::fell);
        edge(30, "IllegalArgumentException: N is none.", KeepEdges::noNight);
        edge(31, "MELTS: so much less each (0 at least).", KeepEdges::melts);
        edge(31, "It MELTS: how much went.", KeepEdges::went);
        edge(31, "IllegalArgumentException: below 0.", KeepEdges::meltBelow);
        edge(32, "SEED: what it was.", KeepEdges::seed);
        edge(33, "RENT of a GUEST: BASE less FAR of the ROOM times a RATE, 0 at least.", KeepEdges::rent);
        edge(33, "RENT of a GUEST.", KeepEdges::rentOf);
        edge(33, "IllegalArgumentException: BASE (0 to 9999) or RATE (0 to 999) are none.", KeepEdges::noRent);
        edge(34, "THE IMAGE (one) of all may be kept, and gone back to (but for the TAPE, fault() and THE IMAGE itself).", KeepEdges::ofAll);
        edge(34, "THE IMAGE is kept.", KeepEdges::kept);
        edge(35, "One goes back to THE IMAGE: true;", KeepEdges::back);
        edge(35, "false, and nothing happens, if none was kept.", KeepEdges::noneKept);
        edge(36, "0 ROOMS, 1 GUESTS, 2 TRUNKS, 3 texts of THE HOUSE, 4 LINES of THE BOOK, 5 READINGS, 6 THE STOVE's ROOM, 7 its WEIGHT,"
            + " 8 BOUND, 9 SLIDE, 10 SNOW of all, 11 WISHES of all.", KeepEdges::count);
        edge(36, "NONE for another what.", KeepEdges::anotherCount);
    }

    private static void night() {
        for (int n : new int[] {1, 2, 7, 499, 500}) {
            PinInn inn = Inn.of(lines("room 0 0 1", 8));
            inn.night(n);
            for (int r = 0; r < 8; r++) {
                due("night(" + n + "), ROOM " + r, inn.room(r, 3), DRAWN[r] % n);
            }
        }
        PinInn more = Inn.of("room 0 0 1;room 0 0 1;snow 0 600;snow 1 1");
        more.night(500);
        due("338 more", more.room(0, 3), 938);
        due("258 more", more.room(1, 3), 259);
        PinInn just = Inn.of("room 0 0 1;snow 0 661");
        just.night(500);
        due("just 999", just.room(0, 3), 999);
        PinInn beyond = Inn.of("room 0 0 1;room 0 0 1;snow 0 662;snow 1 999");
        beyond.night(500);
        due("999 at most", beyond.room(0, 3), 999);
        due("999 stays", beyond.room(1, 3), 999);
    }

    private static void draw() {
        PinInn inn = Inn.of("room 0 0 1");
        int seed = 1;
        for (int i = 0; i < DRAWN.length; i++) {
            inn.melt(999);
            due("draw " + i, inn.night(500), DRAWN[i] % 500);
            seed = (int) ((1103515245L * seed + 12345L) & 0xffffffffL);
            due("SEED " + i, inn.seed(seed), seed);
        }
        PinInn one = new PinInn();
        due("SEED 1 at first", one.seed(1), 1);
        due("no ROOM, no draw", one.night(500), 0);
        due("SEED is as it was", one.seed(1), 1);
        PinInn ends = Inn.of("room 0 0 1");
        for (int from : new int[] {0, -1, LEAST_INT, MOST_INT, 1 << 16}) {
            ends.melt(999);
            ends.seed(from);
            int next = (int) ((1103515245L * from + 12345L) & 0xffffffffL);
            due("from " + from, ends.night(500), (next & 0x7fffffff) / 65536 % 500);
            due("SEED from " + from, ends.seed(0), next);
        }
    }

    private static void fell() {
        due("no ROOM", new PinInn().night(1), 0);
        PinInn inn = Inn.of("room 0 0 1;room 0 0 1");
        due("both together", inn.night(500), 338 + 258);
        due("SNOW of all", inn.count(10), 338 + 258);
        due("modulo 1 none", inn.night(1), 0);
        PinInn full = Inn.of("room 0 0 1;room 0 0 1;snow 0 998;snow 1 999");
        due("as much as there is more", full.night(500), 1);
        due("SNOW of all", full.count(10), 1998);
        due("no more", full.night(500), 0);
    }

    private static void noNight() {
        PinInn inn = Inn.of("room 0 0 1;snow 0 5");
        refused(inn, "night(0)", ARGUMENT, () -> inn.night(0));
        refused(inn, "night(501)", ARGUMENT, () -> inn.night(501));
        for (int n : new int[] {-1, LEAST_INT, MOST_INT}) {
            dueThrow("night(" + n + ")", ARGUMENT, () -> inn.night(n));
        }
        due("500 is one", inn.night(500), 338);
        due("1 is one", inn.night(1), 0);
        dueThrow("no ROOM either", ARGUMENT, () -> new PinInn().night(0));
    }

    private static void melts() {
        PinInn inn = Inn.of("room 0 0 1;room 0 0 1;room 0 0 1;snow 0 999;snow 1 5");
        inn.melt(0);
        due("nothing", inn.count(10), 1004);
        inn.melt(4);
        due("4 less", inn.room(0, 3), 995);
        due("4 less", inn.room(1, 3), 1);
        due("0 at least", inn.room(2, 3), 0);
        inn.melt(1);
        due("just 0", inn.room(1, 3), 0);
        inn.melt(1);
        due("0 at least", inn.room(1, 3), 0);
        inn.melt(MOST_INT);
        due("all", inn.count(10), 0);
    }

    private static void went() {
        PinInn inn = Inn.of("room 0 0 1;room 0 0 1;room 0 0 1;snow 0 999;snow 1 5");
        due("none", inn.melt(0), 0);
        due("5 and 6", inn.melt(6), 5 + 6);
        due("993", inn.melt(993), 993);
        due("none is left", inn.melt(1), 0);
        due("none is left", inn.melt(MOST_INT), 0);
        due("no ROOM", new PinInn().melt(5), 0);
    }

    private static void meltBelow() {
        PinInn inn = Inn.of("room 0 0 1;snow 0 5");
        refused(inn, "melt(-1)", ARGUMENT, () -> inn.melt(-1));
        refused(inn, "melt(least)", ARGUMENT, () -> inn.melt(LEAST_INT));
        due("0 is not below", inn.melt(0), 0);
    }

    private static void seed() {
        PinInn inn = Inn.of("room 0 0 1");
        int was = 1;
        for (int n : new int[] {0, -1, MOST_INT, LEAST_INT, 12345, 1}) {
            due("seed(" + n + ")", inn.seed(n), was);
            was = n;
        }
        inn.night(500);
        due("behind a NIGHT", inn.seed(7), 1103527590);
        due("what it was", inn.seed(7), 7);
    }

    private static void rent() {
        PinInn far = Inn.of("room 9 9 1;west 0;south 0;guest 5 in 0");
        due("FAR 18", far.rent(0, 9999, 555), 9999 - 18 * 555);
        due("just 0", far.rent(0, 18, 1), 0);
        due("just 1", far.rent(0, 19, 1), 1);
        due("0 at least", far.rent(0, 17, 1), 0);
        due("0 at least", far.rent(0, 9999, 999), 0);
        PinInn pin = Inn.of("room 0 0 1;guest 5 in 0");
        due("FAR 0", pin.rent(0, 9999, 999), 9999);
        due("RATE 0", far.rent(0, 9999, 0), 9999);
        due("BASE 0", far.rent(0, 0, 0), 0);
        due("BASE 0", far.rent(0, 0, 999), 0);
    }

    private static void rentOf() {
        PinInn inn = Inn.of("room 1 0 1;room 3 2 1;guest 5 in 0;guest 5 in 1");
        due("GUEST 0", inn.rent(0, 100, 10), 90);
        due("GUEST 1", inn.rent(1, 100, 10), 50);
        inn.go(0, 1);
        due("of the ROOM where he is", inn.rent(0, 100, 10), 50);
    }

    private static void noRent() {
        PinInn inn = Inn.of("room 1 0 1;guest 5 in 0");
        refused(inn, "rent(0, -1, 0)", ARGUMENT, () -> inn.rent(0, -1, 0));
        refused(inn, "rent(0, 0, -1)", ARGUMENT, () -> inn.rent(0, 0, -1));
        dueThrow("rent(0, 10000, 0)", ARGUMENT, () -> inn.rent(0, 10000, 0));
        dueThrow("rent(0, 0, 1000)", ARGUMENT, () -> inn.rent(0, 0, 1000));
        for (int n : new int[] {LEAST_INT, MOST_INT}) {
            dueThrow("rent(0, " + n + ", 0)", ARGUMENT, () -> inn.rent(0, n, 0));
            dueThrow("rent(0, 0, " + n + ")", ARGUMENT, () -> inn.rent(0, 0, n));
        }
        due("9999", inn.rent(0, 9999, 0), 9999);
        due("999", inn.rent(0, 9999, 999), 9000);
        due("0", inn.rent(0, 0, 0), 0);
    }

    private static PinInn rich() {
        PinInn inn = Inn.of("room 3 4 2;room 1 4 2;room 5 4 1;guest 5 in 0;guest 6 in 1;trunk 5 to 9 in 1;trunk 2 to 3 in 0",
            "stove 6 in 1;bound 70;slide 20;snow 0 9");
        Inn.wishes(inn, 0, "want stove;want alone");
        Inn.wishes(inn, 1, "want with 0;want x > 3");
        Inn.book(inn, "at 5 0 to 1;at 9 1 to 2");
        inn.read(42, 80);
        inn.seed(99);
        return inn;
    }

    /** Changed behind THE IMAGE, it is gone back to all that was, twice. */
    private static void changed(String what, Consumer<PinInn> change) {
        PinInn inn = rich();
        inn.image();
        String before = look(inn);
        change.accept(inn);
        due(what + " is seen", look(inn).equals(before), false);
        due(what + ": back()", inn.back(), true);
        due(what + " is undone", look(inn).equals(before), true);
        change.accept(inn);
        inn.back();
        due(what + " is undone again", look(inn).equals(before), true);
    }

    private static void ofAll() {
        changed("a ROOM more", inn -> Inn.house(inn, "room 1 1 1"));
        changed("X", inn -> Inn.house(inn, "west 0"));
        changed("Y", inn -> Inn.house(inn, "south 0"));
        changed("a GUEST more", inn -> Inn.house(inn, "guest 9 in 0"));
        changed("a TRUNK more", inn -> Inn.house(inn, "trunk 1 to 2 in 0"));
        changed("THE STOVE's WEIGHT", inn -> Inn.house(inn, "stove 7 in 1"));
        changed("THE STOVE's ROOM", inn -> Inn.house(inn, "stove 6 in 0"));
        changed("SNOW", inn -> Inn.house(inn, "snow 1 9"));
        changed("BOUND", inn -> Inn.house(inn, "bound 71"));
        changed("SLIDE", inn -> Inn.house(inn, "slide 21"));
        changed("a text more", inn -> Inn.house(inn, ""));
        changed("other WISHES", inn -> Inn.wishes(inn, 0, "want with 4;want with 3"));
        changed("no WISHES", inn -> Inn.wishes(inn, 1, ""));
        changed("another BOOK", inn -> Inn.book(inn, "at 5 0 to 2;at 9 1 to 0"));
        changed("no BOOK", inn -> Inn.book(inn, ""));
        changed("a READING more", inn -> inn.read(1, 2));
        changed("SEED", inn -> inn.seed(98));
        changed("a GUEST goes", inn -> inn.go(1, 2));
        changed("a TRUNK is weighed", inn -> inn.weigh(0, 6));
        changed("a DAY is done", PinInn::live);
        changed("a NIGHT", inn -> inn.night(100));
        changed("it MELTS", inn -> inn.melt(1));
        butFor();
    }

    /** The TAPE, fault() and THE IMAGE itself are not gone back to. */
    private static void butFor() {
        PinInn inn = Inn.of("bound 5");
        Inn.feed(inn, "bound 6");
        inn.image();
        inn.end(0);
        due("wrong", answer(() -> Inn.house(inn, "bound 7;x")), Long.MIN_VALUE);
        Inn.feed(inn, "slide 88");
        due("back", inn.back(), true);
        due("fault() stays", inn.fault(), 8);
        due("the TAPE stays", !inn.end(9) && inn.end(8), true);
        due("the TAPE is read", inn.house(), 2);
        due("SLIDE", inn.count(9), 88);
        due("BOUND", inn.count(8), 5);
        due("THE IMAGE stays", inn.back(), true);
        due("SLIDE", inn.count(9), 2000);
        inn.end(0);
        Inn.feed(inn, "bound 9");
        due("nothing is on the TAPE from THE IMAGE's time", inn.end(8), false);
    }

    private static void kept() {
        PinInn inn = Inn.of("bound 5");
        inn.image();
        Inn.house(inn, "bound 6");
        inn.image();
        Inn.house(inn, "bound 7");
        inn.back();
        due("one IMAGE, the latest", inn.count(8), 6);
        inn.back();
        due("it is the only one", inn.count(8), 6);
        PinInn nothing = new PinInn();
        nothing.image();
        Inn.house(nothing, "room 1 1 1;guest 1 in 0;trunk 1 to 2 in 0");
        due("of nothing", nothing.back(), true);
        due("of nothing", look(nothing).equals(look(new PinInn())), true);
        Inn.house(nothing, lines("room 1 1 1", 8));
        Inn.house(nothing, lines("guest 1 in 0", 5) + ";" + lines("trunk 1 to 2 in 0", 6));
        Inn.wishes(nothing, 0, "want alone");
        nothing.back();
        Inn.house(nothing, "room 2 3 4;guest 7 in 0;trunk 3 to 4 in 0");
        due("told anew", nothing.room(0, 2), 4);
        due("told anew", nothing.moment(true, 2), 3 * 7 + 3 * 4);
        due("no WISHES of him who is gone", nothing.count(11), 0);
        due("ROOMS as many as may be", Inn.house(nothing, lines("room 1 1 1", 7)), 2);
        due("GUESTS as many as may be", Inn.house(nothing, lines("guest 1 in 7", 4)), 3);
        due("TRUNKS as many as may be", Inn.house(nothing, lines("trunk 1 to 2 in 7", 5)), 4);
    }

    private static void back() {
        PinInn inn = rich();
        inn.image();
        String before = look(inn);
        due("at once", inn.back(), true);
        due("nothing changed", look(inn).equals(before), true);
        Inn.house(inn, "room 1 1 1;guest 9 in 3");
        Inn.wishes(inn, 2, "want alone;want alone");
        Inn.book(inn, "at 1 2 to 3");
        due("back", inn.back(), true);
        dueThrow("no ROOM 3", INDEX, () -> inn.room(3, 0));
        dueThrow("no GUEST 2", INDEX, () -> inn.where(2));
        Inn.house(inn, "guest 9 in 0");
        due("a new GUEST has no WISHES", inn.met(2), 0);
        due("WISHES of all", inn.count(11), 4);
        inn.image();
        due("GUEST 2 is kept", inn.go(2, 1), 0);
        inn.back();
        due("GUEST 2 is back", inn.where(2), 0);
    }

    private static void noneKept() {
        PinInn inn = rich();
        String before = look(inn);
        Inn.feed(inn, "slide 77");
        due("false", inn.back(), false);
        due("nothing happens", look(inn).equals(before), true);
        due("the TAPE stays", inn.house(), 3);
        due("false", inn.back(), false);
        due("SLIDE", inn.count(9), 77);
        inn.image();
        due("now one is kept", inn.back(), true);
        due("and still is", inn.back(), true);
    }

    private static void count() {
        PinInn inn = rich();
        int[] want = {3, 2, 2, 2, 2, 1, 1, 6, 70, 20, 9, 4};
        for (int what = 0; what < 12; what++) {
            due("count(" + what + ")", inn.count(what), want[what]);
        }
        PinInn most = Inn.of(lines("room 9 9 1", 8), lines("guest 1 in 7", 5), lines("trunk 0 to 0 in 7", 6), "stove 999 in 7;bound 99999;slide 99999",
            "snow 0 999;snow 1 999;snow 2 999;snow 3 999;snow 4 999;snow 5 999;snow 6 999;snow 7 999", "", "", "", "", "");
        Inn.book(most, lines("at 0 0 to 0", 20));
        for (int i = 0; i < 8; i++) {
            most.read(0, 0);
        }
        for (int g = 0; g < 5; g++) {
            Inn.wishes(most, g, lines("want alone", 8));
        }
        int[] all = {8, 5, 6, 10, 20, 8, 7, 999, 99999, 99999, 8 * 999, 40};
        for (int what = 0; what < 12; what++) {
            due("at most, count(" + what + ")", most.count(what), all[what]);
        }
    }

    private static void anotherCount() {
        PinInn inn = rich();
        for (int what : new int[] {-1, -2, 12, 13, LEAST_INT, MOST_INT}) {
            due("count(" + what + ")", inn.count(what), NONE);
        }
    }
}
