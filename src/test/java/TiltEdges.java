/** Edges of promises 22 to 29: BUCKET, WING, UNNOTICED, READINGS and what is WEIGHED. */
final class TiltEdges extends Edges {
    private static final String SIDES = "room 1 0 4;room 1 0 4;west 1";

    private TiltEdges() {
    }

    static void all() {
        edge(22, "BUCKET: the least WEIGHT (1 to 300) which, hung in some ROOM, makes it LEVEL; the least ROOM for it;"
            + " 0, if it is LEVEL so; none.", TiltEdges::bucket);
        edge(22, "BUCKET: the WEIGHT (room false), or the ROOM (NONE, if it is 0); NONE.", TiltEdges::bucketAnswers);
        edge(23, "WING: the place (X, Y - 9 to 9) at which a WEIGHT (1 to 999) would make NET by X and Y, both without signs,"
            + " together the least; of several the least Y, then X.", TiltEdges::wing);
        edge(23, "WING: 19 times Y and 9, and X and 9.", TiltEdges::wingNumber);
        edge(23, "IllegalArgumentException: the WEIGHT is none.", TiltEdges::wingWeight);
        edge(24, "UNNOTICED: two GUESTS G less than H change to ROOMS R and S, at once, not both staying, so that NET by X and by Y"
            + " is as it is now (BEDS are not looked at): how many such; the first (by G, H, R, S).", TiltEdges::unnoticed);
        edge(24, "UNNOTICED: how many (first false), or the first: as figures of base 8 G, H, R, S; NONE.", TiltEdges::unnoticedAnswers);
        edge(25, "READINGS (at most 8): NET by X and Y as it was told, of a time when SNOW, THE STOVE were as now:", TiltEdges::readings);
        edge(25, "A READING: how many there are.", TiltEdges::read);
        edge(25, "UnsupportedOperationException: there are 8.", TiltEdges::ninth);
        edge(26, "SEATINGS (LEVEL or not) that FIT one: how many;", TiltEdges::levelOrNot);
        edge(26, "SEATINGS that FIT a READING.", TiltEdges::fits);
        edge(27, "MEETING of two GUESTS by a READING: in all of these they are in one ROOM (2), in some (1), in none (0); none, if none FITS.",
            TiltEdges::meeting);
        edge(27, "MEETING; NONE.", TiltEdges::meetingAnswers);
        edge(28, "WEIGHED: a TRUNK, all others being as heavy as told LEAST: what it weighs by a MOMENT by X that was read, of all with it:",
            TiltEdges::weighed);
        edge(28, "none, if X of its ROOM is 0, or it does not come out whole, or not from LEAST to MOST.", TiltEdges::weighedNone);
        edge(28, "WEIGHED; NONE.", TiltEdges::weighedFar);
        edge(29, "A TRUNK weighs just so much from now on.", TiltEdges::weigh);
        edge(29, "IllegalArgumentException: it is not from LEAST to MOST.", TiltEdges::weighRefused);
    }

    private static void bucket() {
        PinInn inn = Inn.of(SIDES, "guest 10 in 0;bound 9");
        due("1 is the least", inn.bucket(false), 1);
        due("in the west", inn.bucket(true), 1);
        Inn.house(inn, "bound 10");
        due("LEVEL so", inn.bucket(false), 0);
        Inn.house(inn, "snow 0 300;bound 10");
        due("300 is the most", inn.bucket(false), 300);
        Inn.house(inn, "bound 9");
        due("301 is none", inn.bucket(false), NONE);
        PinInn rooms = Inn.of("room 1 0 1;room 1 0 1;west 1;room 2 0 1;west 2;room 2 0 1;west 3;guest 10 in 0;bound 0");
        due("5 farther off", rooms.bucket(false), 5);
        due("of two the least ROOM", rooms.bucket(true), 2);
        Inn.house(rooms, "snow 0 1;bound 1");
        due("5, for 11 less 10 is just BOUND", rooms.bucket(false), 5);
        PinInn both = Inn.of("room 3 4 1;room 3 4 1;west 1;south 1;guest 10 in 0;bound 3");
        due("by X and by Y at once: 10 for 40 less 40, 9 leaves 4", both.bucket(false), 10);
        Inn.house(both, "bound 4");
        due("9 leaves just 4 by Y", both.bucket(false), 9);
        PinInn across = Inn.of("room 1 0 1;room 1 1 1;west 1;guest 10 in 0;bound 4");
        due("what rights X tilts Y", across.bucket(false), NONE);
        Inn.house(across, "bound 5");
        due("just in the middle", across.bucket(false), 5);
        PinInn worst = Inn.of(SIDES, "guest 10 in 0;trunk 0 to 8 in 0;bound 9");
        due("HIGH 18 needs 9, and LOW is 1 then", worst.bucket(false), 9);
        Inn.house(worst, "bound 4");
        due("HIGH 18 needs 14, and LOW is - 4 then", worst.bucket(false), 14);
        Inn.house(worst, "bound 3");
        due("HIGH and LOW are 8 apart", worst.bucket(false), NONE);
    }

    private static void bucketAnswers() {
        PinInn none = Inn.of("room 1 0 1;guest 10 in 0;bound 9");
        due("none", none.bucket(false), NONE);
        due("none", none.bucket(true), NONE);
        Inn.house(none, "bound 10");
        due("LEVEL so", none.bucket(false), 0);
        due("no ROOM for it", none.bucket(true), NONE);
        due("no ROOM at all", new PinInn().bucket(false), 0);
        due("no ROOM at all", new PinInn().bucket(true), NONE);
        PinInn first = Inn.of("room 1 0 1;west 0;room 1 0 1;guest 10 in 1;bound 0");
        due("WEIGHT", first.bucket(false), 10);
        due("ROOM 0", first.bucket(true), 0);
        due("nothing stays", first.level(), false);
        PinInn last = Inn.of(lines("room 1 0 1", 8), "west 7;guest 10 in 0;bound 0");
        due("ROOM 7", last.bucket(true), 7);
    }

    private static int place(int x, int y) {
        return 19 * (y + 9) + x + 9;
    }

    private static void wing() {
        PinInn inn = Inn.of("room 9 9 1;guest 1 in 0");
        due("just at - 9 - 9", inn.wing(1), place(-9, -9));
        Inn.house(inn, "west 0;south 0");
        due("just at 9 9", inn.wing(1), place(9, 9));
        Inn.house(inn, "snow 0 1");
        due("as far as may be", inn.wing(1), place(9, 9));
        due("2 at 9 9", inn.wing(2), place(9, 9));
        Inn.house(inn, "west 0;south 0");
        due("as far as may be", inn.wing(1), place(-9, -9));
        PinInn half = Inn.of("room 1 0 1;room 0 1 1;guest 1 in 0;guest 1 in 1");
        due("2 at 0 0, - 1 0, 0 - 1 and - 1 - 1 leaves 2 each: the least Y, then X", half.wing(2), place(-1, -1));
        Inn.house(half, "west 0;south 1");
        due("the other side: the least are 0 and 0", half.wing(2), place(0, 0));
        Inn.house(half, "west 0");
        due("the least Y, then the least X", half.wing(2), place(-1, 0));
        due("nothing to right", new PinInn().wing(1), place(0, 0));
        due("nothing to right", new PinInn().wing(999), place(0, 0));
        PinInn heavy = Inn.of("room 9 0 1;guest 111 in 0");
        due("999 just rights 999", heavy.wing(999), place(-1, 0));
        PinInn light = Inn.of("room 4 0 1;room 1 0 1;guest 124 in 0;guest 3 in 1");
        due("499 is less than half of 999", light.wing(999), place(0, 0));
        Inn.house(light, "snow 1 1");
        due("500 is more than half", light.wing(999), place(-1, 0));
        Inn.house(light, "trunk 300 to 300 in 0;snow 1 0");
        due("TRUNKS are not in NET", light.wing(999), place(0, 0));
    }

    private static void wingNumber() {
        PinInn low = Inn.of("room 9 9 1;guest 200 in 0");
        due("the least number", low.wing(1), 0);
        Inn.house(low, "west 0;south 0");
        due("the greatest number", low.wing(1), 360);
        Inn.house(low, "west 0");
        due("X least, Y greatest", low.wing(1), 18 * 19);
        Inn.house(low, "west 0;south 0");
        due("X greatest, Y least", low.wing(1), 18);
    }

    private static void wingWeight() {
        PinInn inn = Inn.of("room 1 0 1;guest 5 in 0");
        refused(inn, "wing(0)", ARGUMENT, () -> inn.wing(0));
        refused(inn, "wing(1000)", ARGUMENT, () -> inn.wing(1000));
        for (int weight : new int[] {-1, LEAST_INT, MOST_INT}) {
            dueThrow("wing(" + weight + ")", ARGUMENT, () -> inn.wing(weight));
        }
        due("1", inn.wing(1), place(-5, 0));
        due("999", inn.wing(999), place(0, 0));
    }

    private static void unnoticed() {
        PinInn one = Inn.of("room 1 0 1;room 1 0 1;guest 5 in 0");
        due("one GUEST is not two", one.unnoticed(false), 0);
        Inn.house(one, "guest 7 in 0");
        // ROOMS 0 and 1 are of one place: 0 1, 1 0, 1 1, but not 0 0
        due("one may stay, not both", one.unnoticed(false), 3);
        due("the first: 0 stays", one.unnoticed(true), 00101);
        PinInn swap = Inn.of("room 1 0 1;room 2 0 1;guest 5 in 0;guest 5 in 1");
        due("they change", swap.unnoticed(false), 1);
        due("they change", swap.unnoticed(true), 00110);
        PinInn beds = Inn.of("room 1 0 1;room 3 0 1;room 2 0 1;guest 5 in 0;guest 5 in 1");
        // 1 0 and 2 2, both into the one bed
        due("BEDS are not looked at", beds.unnoticed(false), 2);
        PinInn byX = Inn.of("room 1 0 1;room 1 1 1;guest 5 in 0;guest 5 in 0");
        due("by X alone is not enough", byX.unnoticed(false), 0);
        PinInn byY = Inn.of("room 0 1 1;room 1 1 1;guest 5 in 0;guest 5 in 0");
        due("by Y alone is not enough", byY.unnoticed(false), 0);
        PinInn weights = Inn.of("room 0 0 1;room 1 0 1;room 2 0 1;guest 10 in 1;guest 5 in 0");
        // GUEST 0 one step west (0), GUEST 1 two steps east
        due("twice as far for half the WEIGHT", weights.unnoticed(false), 1);
        due("the first", weights.unnoticed(true), 00102);
        PinInn order = Inn.of("room 1 0 1;room 2 0 1;guest 3 in 0;guest 5 in 0;guest 5 in 1");
        due("GUESTS 1 and 2 alone", order.unnoticed(true), 01210);
        PinInn pin = Inn.of("room 0 0 1;room 1 0 1;room 1 0 1;west 2;guest 5 in 1;guest 5 in 2");
        due("both to the pin, or they change", pin.unnoticed(false), 2);
        due("ROOM 0 for both is the first", pin.unnoticed(true), 00100);
        PinInn most = Inn.of(lines("room 1 1 1", 8), lines("guest 1 in 0", 5));
        due("10 pairs, 63 each", most.unnoticed(false), 630);
        due("the first", most.unnoticed(true), 00101);
    }

    private static void unnoticedAnswers() {
        due("nobody", new PinInn().unnoticed(false), 0);
        due("nobody", new PinInn().unnoticed(true), NONE);
        PinInn none = Inn.of("room 1 0 1;room 2 0 1;guest 5 in 0;guest 6 in 1");
        due("none", none.unnoticed(false), 0);
        due("none", none.unnoticed(true), NONE);
        PinInn last = Inn.of("room 1 1 1;room 2 3 1;room 3 5 1;room 4 7 1;room 5 2 1;room 6 1 1;room 7 8 1;room 8 4 1",
            "guest 100 in 0;guest 1 in 1;guest 31 in 2;guest 5 in 7;guest 5 in 6");
        due("GUESTS 3 and 4 change 7 and 6", last.unnoticed(true), 03467);
        due("there is just that", last.unnoticed(false), 1);
    }

    private static void readings() {
        PinInn inn = Inn.of(SIDES, "guest 10 in 0;stove 7 in 0;snow 1 3");
        inn.read(14, 0);
        inn.read(-6, 0);
        due("east: 10 and 7 less 3", inn.fits(0), 1);
        due("west: - 10 and 7 less 3", inn.fits(1), 1);
        Inn.house(inn, "snow 1 4");
        due("SNOW as now", inn.fits(0), 0);
        Inn.house(inn, "stove 8 in 0");
        due("THE STOVE as now", inn.fits(0), 1);
        inn.go(0, 1);
        due("where he is now does not matter", inn.fits(0), 1);
        inn.read(10, 1);
        due("by Y it must fit too", inn.fits(2), 0);
        Inn.house(inn, "trunk 5 to 5 in 0");
        due("TRUNKS are not in NET", inn.fits(0), 1);
    }

    private static void read() {
        PinInn inn = Inn.of("room 1 0 1;guest 1 in 0");
        int[] ends = {0, 1, -1, LEAST_INT, MOST_INT, 99999, -99999, 1};
        for (int i = 0; i < 8; i++) {
            due("READING " + i, inn.read(ends[i], 0), i + 1);
            due("count(5)", inn.count(5), i + 1);
        }
        for (int i = 0; i < 8; i++) {
            due("fits(" + i + ")", inn.fits(i), ends[i] == 1 ? 1 : 0);
        }
    }

    private static void ninth() {
        PinInn inn = Inn.of("room 1 0 1;guest 1 in 0");
        for (int i = 0; i < 7; i++) {
            inn.read(i, 0);
        }
        inn.image();
        due("an eighth", inn.read(1, 0), 8);
        refused(inn, "a ninth", UNSUPPORTED, () -> inn.read(1, 0));
        inn.back();
        due("an eighth again", inn.read(5, 5), 8);
        due("it is the new one", inn.fits(7), 0);
    }

    private static void levelOrNot() {
        PinInn inn = Inn.of(SIDES, "guest 100 in 0;guest 100 in 0;bound 0");
        inn.read(200, 0);
        inn.read(0, 0);
        due("not LEVEL", inn.fits(0), 1);
        due("LEVEL", inn.fits(1), 2);
        due("of those that are LEVEL there are 2", inn.seats(2), 2);
    }

    private static void fits() {
        PinInn beds = Inn.of("room 1 0 1;room 1 0 1;guest 5 in 0;guest 5 in 0");
        beds.read(10, 0);
        due("no more than BEDS: 0 1 and 1 0", beds.fits(0), 2);
        Inn.house(beds, "guest 5 in 0");
        due("too few BEDS for any", beds.fits(0), 0);
        PinInn nobody = Inn.of("room 1 0 1;snow 0 4");
        nobody.read(4, 0);
        nobody.read(5, 0);
        due("nobody sits in one way", nobody.fits(0), 1);
        due("and in no other", nobody.fits(1), 0);
        PinInn most = Inn.of(lines("room 1 1 4", 8), lines("guest 1 in 0", 5));
        most.read(5, 5);
        due("all", most.fits(0), 8 * 8 * 8 * 8 * 8 - 8);
        dueThrow("fits(1)", INDEX, () -> most.fits(1));
        dueThrow("fits(-1)", INDEX, () -> most.fits(-1));
    }

    private static void meeting() {
        PinInn inn = Inn.of(SIDES, "guest 10 in 0;guest 10 in 0;guest 5 in 0");
        inn.read(25, 0);
        inn.read(5, 0);
        inn.read(15, 0);
        inn.read(1, 0);
        due("all east", inn.meeting(0, 0, 1), 2);
        due("all east", inn.meeting(0, 2, 0), 2);
        due("the two of 10 apart", inn.meeting(1, 0, 1), 0);
        due("he of 5 with either", inn.meeting(1, 0, 2), 1);
        due("he of 5 with either", inn.meeting(1, 2, 1), 1);
        due("he of 5 apart", inn.meeting(2, 0, 2), 0);
        due("those of 10 together", inn.meeting(2, 1, 0), 2);
        due("none FITS", inn.meeting(3, 0, 1), NONE);
        // two ROOMS at one place: they may be in one ROOM, or not
        PinInn same = Inn.of("room 1 0 2;room 1 0 2;guest 5 in 0;guest 5 in 1");
        same.read(10, 0);
        due("of one place is not in one ROOM", same.meeting(0, 0, 1), 1);
    }

    private static void meetingAnswers() {
        PinInn inn = Inn.of("room 1 0 1;room 1 0 1;west 1;guest 10 in 0;guest 10 in 0");
        inn.read(0, 0);
        inn.read(20, 0);
        due("one bed each", inn.meeting(0, 0, 1), 0);
        due("with oneself", inn.meeting(0, 1, 1), 2);
        due("two in one bed FIT not", inn.meeting(1, 0, 1), NONE);
        due("with oneself, none FITS", inn.meeting(1, 0, 0), NONE);
        for (int n : new int[] {-1, 2, LEAST_INT, MOST_INT}) {
            dueThrow("reading " + n, INDEX, () -> inn.meeting(n, 0, 1));
            dueThrow("guest " + n, INDEX, () -> inn.meeting(0, n, 1));
            dueThrow("other " + n, INDEX, () -> inn.meeting(0, 0, n));
            dueThrow("none FITS, guest " + n, INDEX, () -> inn.meeting(1, n, n));
        }
    }

    private static PinInn trunks() {
        return Inn.of("room 3 1 1;room 2 1 1;west 1;room 0 1 1;guest 10 in 0;stove 4 in 1;snow 0 1",
            "trunk 5 to 20 in 0;trunk 7 to 30 in 1;trunk 0 to 9 in 2;trunk 2 to 8 in 0");
    }

    private static void weighed() {
        PinInn inn = trunks();
        int net = 30 - 8 + 3;
        due("NET", inn.moment(false, 0), net);
        due("TRUNK 0, the others LEAST", inn.weighed(0, net - 2 * 7 + 3 * 2 + 3 * 12), 12);
        due("TRUNK 3, the others LEAST", inn.weighed(3, net + 3 * 5 - 2 * 7 + 3 * 6), 6);
        due("TRUNK 1, in the west", inn.weighed(1, net + 3 * 5 + 3 * 2 - 2 * 9), 9);
        PinInn six = Inn.of("room 1 0 1;" + lines("trunk 3 to 9 in 0", 6));
        for (int t = 0; t < 6; t++) {
            due("TRUNK " + t + " of 6", six.weighed(t, 5 * 3 + 4 + t % 3), 4 + t % 3);
        }
        inn.weigh(0, 15);
        due("TRUNK 0 is as heavy as it weighs now", inn.weighed(3, net + 3 * 15 - 2 * 7 + 3 * 6), 6);
        due("nothing stays", inn.trunk(3, 0), 2);
    }

    private static void weighedNone() {
        PinInn inn = trunks();
        int others = 30 - 8 + 3 - 2 * 7 + 3 * 2;
        due("LEAST", inn.weighed(0, others + 15), 5);
        due("one below", inn.weighed(0, others + 12), NONE);
        due("MOST", inn.weighed(0, others + 60), 20);
        due("one above", inn.weighed(0, others + 63), NONE);
        due("not whole", inn.weighed(0, others + 31), NONE);
        due("not whole", inn.weighed(0, others + 32), NONE);
        due("below 0", inn.weighed(0, others - 15), NONE);
        int rest = 30 - 8 + 3 + 3 * 5 + 3 * 2;
        due("LEAST in the west", inn.weighed(1, rest - 14), 7);
        due("MOST in the west", inn.weighed(1, rest - 60), 30);
        due("one above in the west", inn.weighed(1, rest - 62), NONE);
        due("one below in the west", inn.weighed(1, rest - 12), NONE);
        due("not whole in the west", inn.weighed(1, rest - 15), NONE);
        due("the other side", inn.weighed(1, rest + 14), NONE);
        due("X is 0", inn.weighed(2, 30 - 8 + 3 + 3 * 5 - 2 * 7 + 3 * 2), NONE);
        PinInn zero = Inn.of("room 1 0 1;trunk 0 to 3 in 0");
        due("0 is a WEIGHT", zero.weighed(0, 0), 0);
        due("1 is", zero.weighed(0, 1), 1);
        due("- 1 is none", zero.weighed(0, -1), NONE);
    }

    private static void weighedFar() {
        PinInn east = Inn.of("room 1 0 1;room 9 0 1;west 1;trunk 0 to 300 in 0;guest 200 in 1;snow 1 999");
        due("the most", east.weighed(0, MOST_INT), NONE);
        due("the least", east.weighed(0, LEAST_INT), NONE);
        for (int n : new int[] {-1, 1, LEAST_INT, MOST_INT}) {
            dueThrow("weighed(" + n + ", 0)", INDEX, () -> east.weighed(n, 0));
        }
    }

    private static long weigh(PinInn inn, int trunk, int weight) {
        inn.weigh(trunk, weight);
        return 0;
    }

    private static void weigh() {
        for (int weight : new int[] {0, 150, 300}) {
            PinInn inn = Inn.of("room 2 0 1;trunk 0 to 300 in 0;trunk 1 to 5 in 0");
            inn.weigh(0, weight);
            due("LEAST", inn.trunk(0, 0), weight);
            due("MOST", inn.trunk(0, 1), weight);
            due("ROOM", inn.trunk(0, 2), 0);
            due("the other's LEAST", inn.trunk(1, 0), 1);
            due("the other's MOST", inn.trunk(1, 1), 5);
            due("LOW", inn.moment(false, 1), 2 * weight + 2);
            due("HIGH", inn.moment(false, 2), 2 * weight + 10);
            inn.weigh(0, weight);
            due("as it weighs already", inn.trunk(0, 0), weight);
            dueThrow("more", ARGUMENT, () -> weigh(inn, 0, weight + 1));
            dueThrow("less", ARGUMENT, () -> weigh(inn, 0, weight - 1));
        }
    }

    private static void weighRefused() {
        PinInn inn = Inn.of("room 2 0 1;trunk 5 to 20 in 0");
        refused(inn, "one below", ARGUMENT, () -> weigh(inn, 0, 4));
        refused(inn, "one above", ARGUMENT, () -> weigh(inn, 0, 21));
        dueThrow("the least", ARGUMENT, () -> weigh(inn, 0, LEAST_INT));
        dueThrow("the most", ARGUMENT, () -> weigh(inn, 0, MOST_INT));
        inn.image();
        due("LEAST", weigh(inn, 0, 5), 0);
        inn.back();
        due("MOST", weigh(inn, 0, 20), 0);
    }
}
