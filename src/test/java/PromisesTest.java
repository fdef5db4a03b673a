import java.util.NoSuchElementException;

/** Each promise of the document by its number: ordinary answers, the edges it names, and wrong calls. */
public final class PromisesTest {
    private static final int NONE = PinInn.NONE;
    private static final Class<?> INDEX = IndexOutOfBoundsException.class;
    private static final Class<?> ARGUMENT = IllegalArgumentException.class;
    private static final Class<?> UNSUPPORTED = UnsupportedOperationException.class;
    private static final Class<?> ELEMENT = NoSuchElementException.class;

    /** East 0, west 1, north 2, south 3 of the pin, one step off each; a 4th ROOM is on it. */
    private static final String CROSS =
        "room 1 0 2;room 1 0 2;west 1;room 0 1 2;room 0 1 2;south 3;room 0 0 1";

    private PromisesTest() {
    }

    public static void main(String[] args) {
        newObject();
        feed();
        end();
        houseLines();
        houseFaults();
        houseLimits();
        wishesAnswers();
        wishesFaults();
        book();
        fault();
        room();
        whereAndGo();
        trunk();
        moment();
        level();
        seating();
        metWords();
        metJoins();
        day();
        dayOrder();
        live();
        seats();
        bells();
        bellsWays();
        stove();
        wake();
        bucket();
        wing();
        unnoticed();
        readAndFits();
        meeting();
        weighed();
        weigh();
        night();
        melt();
        seed();
        rent();
        imageAndBack();
        count();
        Inn.close("PromisesTest");
    }

    private static void due(String what, long got, long want) {
        Inn.due(what, got, want);
    }

    private static void due(String what, boolean got, boolean want) {
        Inn.due(what, got, want);
    }

    private static void dueThrow(String what, Class<?> want, Inn.Call call) {
        Inn.dueThrow(what, want, call);
    }

    private static void newObject() {
        PinInn inn = new PinInn();
        int[] first = {0, 0, 0, 0, 0, 0, 0, 0, 1000, 2000, 0, 0};
        for (int what = 0; what < first.length; what++) {
            due("1: count(" + what + ")", inn.count(what), first[what]);
        }
        due("1: NONE", PinInn.NONE, -1);
        due("1: fault()", inn.fault(), NONE);
        due("1: seed(5)", inn.seed(5), 1);
        due("1: back()", inn.back(), false);
        due("1: level()", inn.level(), true);
        due("1: seating()", inn.seating(), 0);
        due("1: the TAPE is empty", inn.end(1), false);
        due("1: seats(2)", inn.seats(2), 1);
        due("1: day(0)", inn.day(0), NONE);
    }

    private static void feed() {
        PinInn inn = new PinInn();
        // "room 1 2 3;south 0  ": the highest byte of each number comes first
        due("2: feed", inn.feed(0x726f6f6d, 0x20312032, 0x20333b73, 0x6f757468, 0x20302020), 20);
        due("2: house", inn.house(), 1);
        due("2: x", inn.room(0, 0), 1);
        due("2: y", inn.room(0, 1), -2);
        due("2: beds", inn.room(0, 2), 3);
        for (int i = 1; i <= 20; i++) {
            due("2: feed no " + i, inn.feed(0x20202020, 0x20202020, 0x20202020, 0x20202020, 0x20202020), 20 * i);
        }
        due("2: feed beyond 400", inn.feed(1, 1, 1, 1, 1), NONE);
        due("2: none came", inn.end(401), false);
        due("2: 400 blanks", inn.house(), 2);
        Inn.feed(inn, "x");
        due("2: feed behind 1 byte", inn.feed(0, 0, 0, 0, 0), 21);
        due("2: cut to 381", fill(inn).end(381), true);
        due("2: feed to 401", inn.feed(0, 0, 0, 0, 0), NONE);
        inn.end(380);
        due("2: feed to 400", inn.feed(0, 0, 0, 0, 0), 400);
    }

    private static PinInn fill(PinInn inn) {
        for (int i = 0; i < 20; i++) {
            inn.feed(0, 0, 0, 0, 0);
        }
        return inn;
    }

    private static void end() {
        PinInn inn = new PinInn();
        due("3: end(0) of nothing", inn.end(0), true);
        due("3: end(1) of nothing", inn.end(1), false);
        due("3: end(-1)", inn.end(-1), false);
        inn.feed(0x626f756e, 0x64203132, 0x33000000, 0, 0);
        due("3: end(21)", inn.end(21), false);
        due("3: end(20)", inn.end(20), true);
        due("3: end(least)", inn.end(Integer.MIN_VALUE), false);
        due("3: end(8)", inn.end(8), true);
        due("3: end(9)", inn.end(9), false);
        due("3: house", inn.house(), 1);
        due("3: bound 12", inn.count(8), 1 * 12);
        due("3: used up", inn.end(1), false);
    }

    private static void houseLines() {
        PinInn inn = new PinInn();
        due("4: first", Inn.house(inn, "room 9 0 4; room 0 9 1 ;west 0;south 1;west 1"), 1);
        due("4: x", inn.room(0, 0), -9);
        due("4: y", inn.room(1, 1), -9);
        due("4: 0 less 0", inn.room(1, 0), 0);
        due("4: second", Inn.house(inn, "guest 200 in 1;guest 1in0;trunk 0 to 300 in 0;trunk 7 to 7 in 1"), 2);
        due("4: where", inn.where(1), 0);
        due("4: third", Inn.house(inn, "stove 999 in 1;snow 1 999;snow 0 12;bound 99999;slide 0"), 3);
        due("4: stove room", inn.count(6), 1);
        due("4: stove weight", inn.count(7), 999);
        due("4: bound", inn.count(8), 99999);
        due("4: slide", inn.count(9), 0);
        due("4: snow", inn.count(10), 1011);
        due("4: snow again", Inn.house(inn, "snow 1 5"), 4);
        due("4: snow is what is told", inn.room(1, 3), 5);
        due("4: west twice", Inn.house(inn, "west 0;west 0;west 0"), 5);
        due("4: x thrice turned", inn.room(0, 0), 9);
        due("4: no blanks", Inn.house(inn, "room1 2 3;guest5in2;stove4in0"), 6);
        due("4: where", inn.where(2), 2);
        due("4: digits", Inn.house(inn, "bound 00007;room 00001 0 00002"), 7);
        due("4: bound 7", inn.count(8), 7);
        due("4: blanks alone", Inn.house(inn, "    "), 8);
        due("4: nothing", Inn.house(inn, ""), 9);
        due("4: more GUESTS than BEDS", Inn.house(inn, "guest 1 in 1;guest 2 in 1"), 10);
        due("4: GUESTS in it", inn.room(1, 5), 3);
        dueThrow("4: an eleventh", UNSUPPORTED, () -> Inn.house(inn, "bound 3"));
        due("4: nothing stays", inn.count(8), 7);
        due("4: no fault", inn.fault(), NONE);
        due("4: used up", inn.end(1), false);
        dueThrow("4: an eleventh that is wrong", ARGUMENT, () -> Inn.house(inn, "bound x"));
        due("4: its fault", inn.fault(), 6);
        due("4: texts", inn.count(3), 10);
    }

    private static void wrongHouse(PinInn inn, String text, int at) {
        int rooms = inn.count(0);
        int bound = inn.count(8);
        int texts = inn.count(3);
        dueThrow("4: house \"" + text + "\"", ARGUMENT, () -> Inn.house(inn, text));
        due("7: fault of \"" + text + "\"", inn.fault(), at);
        due("4: no ROOM stays of \"" + text + "\"", inn.count(0), rooms);
        due("4: no BOUND stays of \"" + text + "\"", inn.count(8), bound);
        due("4: it is no text of THE HOUSE: \"" + text + "\"", inn.count(3), texts);
        due("4: used up by \"" + text + "\"", inn.end(1), false);
    }

    private static void houseFaults() {
        String[] texts = {"x", "room", "room ", "room  5", "room -1 0 1", "room 10 0 1", "room 0 0 0", "room 0 0 5",
            "room 1 1 1 1", "roomx 1 1 1", "Room 1 1 1", "room 1 1 1;", "room 1 1 1; ", ";room 1 1 1", "room 1 1 1;;",
            "guest 0 in 0", "guest 201 in 0", "guest 9 in 1", "guest 9 inn 0", "guest 9 0", "guest in 0",
            "trunk 301 to 301 in 0", "trunk 5 to 4 in 0", "trunk 5 to 301 in 0", "trunk 5 in 0", "trunk 5 to 6 in 1",
            "stove 1000 in 0", "stove 9 in 1", "stove 9 in", "snow 1 5", "snow 0 1000", "snow 0", "bound 100000",
            "bound 000000", "bound 99999 9", "slide 100000", "slide", "west 1", "south 1", "west", "west 0 0",
            "bound 5;room 1 1 1;guest 3 in 2", "bound 5;bound 123456;x", "bound 5,bound 6", "bound 5\u0000",
            "\u00e9", "want alone", "at 3 0 to 0", "room 1 1 1;room 11 1 1", "bound 5 bound 6", "rooma 1 1 1", "roomz 1 1 1",
            "room{1 1 1", "room`1 1 1", "bound 5/", "bound 5:"};
        int[] faults = {0, 4, 5, 7, 5, 5, 9, 9,
            11, 0, 0, 11, 12, 0, 11,
            6, 6, 11, 8, 8, 6,
            6, 11, 11, 8, 16,
            6, 11, 10, 5, 7, 6, 6,
            6, 12, 6, 5, 5, 6, 4, 7,
            30, 14, 7, 7,
            0, 0, 0, 16, 8, 0, 0,
            4, 4, 7, 7};
        for (int i = 0; i < texts.length; i++) {
            wrongHouse(Inn.of("room 0 0 1"), texts[i], faults[i]);
        }
        wrongHouse(new PinInn(), "west 0;room 0 0 1", 5);
        wrongHouse(new PinInn(), "guest 5 in 0", 11);
        due("4: R that there is by then", Inn.house(new PinInn(), "room 0 0 1;guest 5 in 0"), 1);
    }

    private static String times(String line, int n) {
        return String.join(";", java.util.Collections.nCopies(n, line));
    }

    private static void houseLimits() {
        PinInn inn = new PinInn();
        wrongHouse(inn, times("bound 5", 15), 112);
        wrongHouse(inn, times("bound 5", 14) + ";", 112);
        wrongHouse(inn, times("bound 5", 14) + "; x", 113);
        due("4: 14 LINES", Inn.house(inn, times("bound 5", 14)), 1);
        wrongHouse(inn, times("room 1 1 1", 9), 88);
        wrongHouse(inn, times("room 1 1 1", 8) + ";room", 88);
        due("4: 8 ROOMS", Inn.house(inn, times("room 1 1 1", 8)), 2);
        wrongHouse(inn, "room 1 1 1", 0);
        wrongHouse(inn, times("guest 5 in 7", 6), 65);
        due("4: 5 GUESTS", Inn.house(inn, times("guest 5 in 7", 5)), 3);
        wrongHouse(inn, "bound 6; guest", 9);
        wrongHouse(inn, times("trunk 1 to 2 in 3", 7), 108);
        due("4: 6 TRUNKS", Inn.house(inn, times("trunk 1 to 2 in 3", 6)), 4);
        wrongHouse(inn, " trunk 1 to 2 in 3", 1);
        due("4: GUESTS", inn.count(1), 5);
        due("4: TRUNKS", inn.count(2), 6);
    }

    private static void wishesAnswers() {
        PinInn inn = Inn.of("room 1 0 2;guest 5 in 0;guest 6 in 0");
        due("5: wishes", Inn.wishes(inn, 0, "want alone;want not alone ; want with 1"), 3);
        due("5: met", inn.met(0), 2);
        due("5: in place of those before", Inn.wishes(inn, 0, "want alone"), 1);
        due("5: met", inn.met(0), 0);
        due("5: of another", Inn.wishes(inn, 1, times("want x > 9", 8)), 8);
        due("5: of all", inn.count(11), 9);
        due("5: none", Inn.wishes(inn, 1, "  "), 0);
        due("5: of all", inn.count(11), 1);
        dueThrow("5: wrong", ARGUMENT, () -> Inn.wishes(inn, 0, "want with 1;want"));
        due("5: fault", inn.fault(), 16);
        due("5: those before stay", inn.met(0), 0);
        due("5: those before stay", inn.count(11), 1);
        due("5: used up", inn.end(1), false);
        dueThrow("5: no such GUEST", INDEX, () -> Inn.wishes(inn, 2, "want"));
        due("5: used up", inn.end(1), false);
        due("5: that was not read", inn.fault(), 16);
        dueThrow("5: below", INDEX, () -> Inn.wishes(inn, -1, "want alone"));
    }

    private static void wishesFaults() {
        PinInn inn = Inn.of("room 1 0 2;guest 5 in 0");
        String[] texts = {"alone", "want", "want ", "want want", "want alone alone", "want x", "want x <", "want x < y < 3",
            "want x + < 3", "want x + y", "want (alone", "want (alone;want alone)", "want alone)", "want ()", "want (x) < 3",
            "want not", "want and", "want alone and", "want alone or", "want alone;", "want with", "want with 5", "want with x",
            "want with 000000", "want 100000 < x", "want x < 123456", "want x = 3", "want x < -1", "want 1 2 < 3",
            "want stove < 3", "want guest < 3", "want xx < 3", "want x < 3 andx", "want alone + 3", "want alone ; ; want alone",
            "want ((((((( alone )))))))", "want not not not not not not not alone", "want (not (not (not (alone",
            "want (not (not (not alone)))", "want alone and (not (not (not not alone or alone)))",
            "want x+y+far+heads+snow+room+5", "bound 5", "want x < 3;bound 5", "want Alone"};
        int[] faults = {0, 4, 5, 5, 11, 6, 8, 11,
            9, 10, 11, 11, 10, 6, 7,
            8, 5, 14, 13, 11, 9, 10, 10,
            10, 5, 9, 7, 9, 7,
            11, 5, 5, 11, 11, 13,
            11, 29, 20,
            NONE, 30,
            30, 0, 11, 5};
        for (int i = 0; i < texts.length; i++) {
            String text = texts[i];
            if (faults[i] == NONE) {
                due("5: wishes \"" + text + "\"", Inn.wishes(inn, 0, text), 1);
            } else {
                dueThrow("5: wishes \"" + text + "\"", ARGUMENT, () -> Inn.wishes(inn, 0, text));
            }
            due("7: fault of \"" + text + "\"", inn.fault(), faults[i]);
        }
        dueThrow("5: 9 WISHES", ARGUMENT, () -> Inn.wishes(inn, 0, times("want alone", 9)));
        due("7: the 9th", inn.fault(), 88);
        due("5: 6 deep", Inn.wishes(inn, 0, "want (((((( alone ))))));want not not not not not not alone"), 2);
        due("5: 6 deep, met", inn.met(0), 2);
        due("5: side by side is not deeper", Inn.wishes(inn, 0, "want not alone or not alone or not alone or (not alone) or (not alone) or not alone or not alone or alone"), 1);
    }

    private static void book() {
        PinInn inn = Inn.of("room 1 0 2;room 2 0 2;guest 5 in 0;guest 5 in 1");
        due("6: book", Inn.book(inn, "at 0 1 to 0;at 0 0 to 1; at 999 1 to 1"), 3);
        due("6: 20 LINES", Inn.book(inn, times("at 5 0 to 0", 20)), 20);
        String[] texts = {times("at 5 0 to 0", 21), "at 5 0 to 0;at 4 0 to 0", "at 1000 0 to 0", "at 5 2 to 0", "at 5 0 to 2",
            "at 5 0 in 0", "at 5 0", "at", "5 0 to 0", "at 5 0 to 0;", "at 5 0 to 0 0", "at x", "at 5 0to0;at 005 1to 00001;at 4",
            "at 5", "at 5 1 to"};
        int[] faults = {240, 15, 3, 5, 10, 7, 6, 2, 0, 12, 12, 3, 30, 4, 9};
        for (int i = 0; i < texts.length; i++) {
            String text = texts[i];
            dueThrow("6: book \"" + text + "\"", ARGUMENT, () -> Inn.book(inn, text));
            due("7: fault of \"" + text + "\"", inn.fault(), faults[i]);
            due("6: the one before stays", inn.count(4), 20);
            due("6: used up", inn.end(1), false);
        }
        due("6: in place of it", Inn.book(inn, "at 5 0 to 1"), 1);
        due("6: LINES", inn.count(4), 1);
        due("6: none", Inn.book(inn, " "), 0);
        due("6: LINES", inn.count(4), 0);
        dueThrow("6: no GUEST", ARGUMENT, () -> Inn.book(new PinInn(), "at 5 0 to 0"));
    }

    private static void fault() {
        PinInn inn = new PinInn();
        due("7: ahead of any", inn.fault(), NONE);
        dueThrow("7: wrong", ARGUMENT, () -> Inn.house(inn, "bound 5 5"));
        due("7: fault", inn.fault(), 8);
        Inn.feed(inn, "bound");
        due("7: a text that is not yet read", inn.fault(), 8);
        inn.image();
        inn.end(0);
        Inn.house(inn, "bound 5");
        due("7: right", inn.fault(), NONE);
        dueThrow("7: wrong", ARGUMENT, () -> Inn.book(inn, "to"));
        due("7: the latest", inn.fault(), 0);
        inn.back();
        due("7: going back leaves it", inn.fault(), 0);
        Inn.book(inn, "");
        due("7: right", inn.fault(), NONE);
    }

    private static void room() {
        PinInn inn = Inn.of("room 3 4 2;room 0 9 4;west 0;guest 5 in 1;guest 5 in 1;trunk 1 to 2 in 0;snow 0 77");
        int[][] want = {{-3, 4, 2, 77, 7, 0, 1}, {0, 9, 4, 0, 9, 2, 0}};
        for (int r = 0; r < 2; r++) {
            for (int what = 0; what < 7; what++) {
                due("8: room(" + r + ", " + what + ")", inn.room(r, what), want[r][what]);
            }
        }
        dueThrow("8: room(2, 0)", INDEX, () -> inn.room(2, 0));
        dueThrow("8: room(-1, 0)", INDEX, () -> inn.room(-1, 0));
        dueThrow("8: room(2, 9)", INDEX, () -> inn.room(2, 9));
        dueThrow("8: room(0, 7)", ELEMENT, () -> inn.room(0, 7));
        dueThrow("8: room(0, -1)", ELEMENT, () -> inn.room(0, -1));
    }

    private static void whereAndGo() {
        PinInn inn = Inn.of("room 3 4 1;room 0 9 1;guest 5 in 1;guest 5 in 0");
        due("9: where(0)", inn.where(0), 1);
        due("9: where(1)", inn.where(1), 0);
        dueThrow("9: where(2)", INDEX, () -> inn.where(2));
        dueThrow("9: where(-1)", INDEX, () -> inn.where(-1));
        due("11: go, whatever BEDS", inn.go(1, 1), 0);
        due("9: where(1)", inn.where(1), 1);
        due("11: go where he is", inn.go(1, 1), 1);
        dueThrow("11: go(2, 0)", INDEX, () -> inn.go(2, 0));
        dueThrow("11: go(-1, 0)", INDEX, () -> inn.go(-1, 0));
        dueThrow("11: go(0, 2)", INDEX, () -> inn.go(0, 2));
        dueThrow("11: go(0, -1)", INDEX, () -> inn.go(0, -1));
        due("11: nothing stays", inn.seating(), 9);
    }

    private static void trunk() {
        PinInn inn = Inn.of("room 3 4 1;room 0 9 1;trunk 5 to 9 in 1;trunk 0 to 300 in 0");
        int[][] want = {{5, 9, 1}, {0, 300, 0}};
        for (int t = 0; t < 2; t++) {
            for (int what = 0; what < 3; what++) {
                due("10: trunk(" + t + ", " + what + ")", inn.trunk(t, what), want[t][what]);
            }
        }
        dueThrow("10: trunk(2, 0)", INDEX, () -> inn.trunk(2, 0));
        dueThrow("10: trunk(-1, 5)", INDEX, () -> inn.trunk(-1, 5));
        dueThrow("10: trunk(0, 3)", ELEMENT, () -> inn.trunk(0, 3));
        dueThrow("10: trunk(0, -1)", ELEMENT, () -> inn.trunk(0, -1));
    }

    private static void moment() {
        PinInn inn = Inn.of("room 2 3 1;room 4 1 1;west 1;guest 10 in 0;guest 7 in 1;snow 0 5;snow 1 3;stove 6 in 1",
            "trunk 10 to 30 in 0;trunk 1 to 4 in 1");
        due("12: NET by X", inn.moment(false, 0), 10 * 2 - 7 * 4 + 5 * 2 - 3 * 4 - 6 * 4);
        due("12: NET by Y", inn.moment(true, 0), 10 * 3 + 7 + 5 * 3 + 3 + 6);
        due("12: LOW by X", inn.moment(false, 1), -34 + 20 - 16);
        due("12: HIGH by X", inn.moment(false, 2), -34 + 60 - 4);
        due("12: LOW by Y", inn.moment(true, 1), 61 + 30 + 1);
        due("12: HIGH by Y", inn.moment(true, 2), 61 + 90 + 4);
        dueThrow("12: moment(false, 3)", ELEMENT, () -> inn.moment(false, 3));
        dueThrow("12: moment(true, -1)", ELEMENT, () -> inn.moment(true, -1));
    }

    private static void level() {
        String[] sides = {"room 1 0 1", "room 1 0 1;west 0", "room 0 1 1", "room 0 1 1;south 0"};
        for (String side : sides) {
            PinInn inn = Inn.of(side, "guest 40 in 0;bound 40");
            due("13: just BOUND, " + side, inn.level(), true);
            Inn.house(inn, "bound 39");
            due("13: one beyond, " + side, inn.level(), false);
            Inn.house(inn, "bound 60;trunk 0 to 20 in 0");
            due("13: TRUNKS at most, " + side, inn.level(), true);
            Inn.house(inn, "trunk 0 to 1 in 0");
            due("13: one too heavy, " + side, inn.level(), false);
        }
        PinInn light = Inn.of("room 1 0 1;room 1 0 1;west 0;guest 40 in 0;trunk 30 to 90 in 1;bound 30");
        due("13: HIGH is beyond", light.level(), false);
        Inn.house(light, "bound 50");
        due("13: LOW -10, HIGH 50", light.level(), true);
    }

    private static void seating() {
        PinInn inn = Inn.of("room 1 0 1;room 1 0 1;room 0 0 1;guest 1 in 2;guest 1 in 0;guest 1 in 1");
        due("14: seating()", inn.seating(), 2 + 0 * 8 + 1 * 64);
        inn.go(1, 2);
        due("14: whatever BEDS", inn.seating(), 2 + 2 * 8 + 1 * 64);
    }

    private static int metBy(PinInn inn, String wish) {
        Inn.wishes(inn, 0, "want " + wish);
        return inn.met(0);
    }

    private static void metWords() {
        PinInn inn = Inn.of("room 0 0 1;room 0 0 1;room 4 3 4;west 2;snow 2 17;stove 1 in 2;guest 9 in 2;guest 9 in 2;guest 9 in 1");
        String[] yes = {"x < 6", "x > 4", "y < 13", "y > 11", "far < 8", "far > 6", "heads < 3", "heads > 1", "snow < 18",
            "snow > 16", "room < 3", "room > 1", "stove", "with 0", "with 1", "not with 2", "not with 3", "not with 4", "not alone",
            "x + y > 16", "x + y < 18", "99999 + 1 > 99999", "0 < 1", "1 + 1 + 1 + 1 > 3", "not far > 7", "not not stove"};
        for (String wish : yes) {
            due("15: " + wish, metBy(inn, wish), 1);
            due("15: not " + wish, metBy(inn, "not " + wish), 0);
        }
        inn.go(1, 1);
        due("15: alone now", metBy(inn, "alone and heads < 2"), 1);
        due("15: with 1 no more", metBy(inn, "with 1"), 0);
        inn.go(0, 0);
        due("15: no stove there", metBy(inn, "stove"), 0);
        Inn.wishes(inn, 0, "want with 3");
        due("15: who is not there", inn.met(0), 0);
        Inn.house(inn, "guest 5 in 0");
        due("15: who is there now", inn.met(0), 1);
    }

    private static void metJoins() {
        PinInn inn = Inn.of("room 0 0 1;guest 9 in 0;guest 9 in 0");
        String[] wishes = {"alone and alone or stove", "stove or alone and alone", "(stove or alone) and alone",
            "not alone and alone", "not (alone and stove)", "stove and stove and alone", "alone or alone or stove",
            "not stove or stove", "x<y or 1<2", "((x > 8) and (y > 8)) and not (x > 9 or y > 9)"};
        int[] want = {1, 1, 0, 0, 1, 0, 1, 1, 1, 1};
        for (int i = 0; i < wishes.length; i++) {
            due("15: " + wishes[i], metBy(inn, wishes[i]), want[i]);
        }
        String open = "stove and alone or stove and (";
        due("15: as much open at once as may be", metBy(inn, open.repeat(6) + "alone or stove and 1 < 1 + 1" + ")".repeat(6)), 1);
        due("15: as much open at once as may be", metBy(inn, open.repeat(6) + "alone or stove and 2 < 1 + 1" + ")".repeat(6)), 0);
        Inn.wishes(inn, 0, "want stove;want alone;want with 1");
        Inn.wishes(inn, 1, "want stove;want with 4");
        due("15: met(0)", inn.met(0), 2);
        due("15: met(1)", inn.met(1), 1);
        due("15: met(NONE)", inn.met(NONE), 3);
        dueThrow("15: met(2)", INDEX, () -> inn.met(2));
        dueThrow("15: met(-2)", INDEX, () -> inn.met(-2));
        due("15: met(NONE) of nobody", new PinInn().met(NONE), 0);
    }

    private static void day() {
        PinInn inn = Inn.of(CROSS, "guest 60 in 0;guest 60 in 1;trunk 5 to 9 in 0;bound 70;slide 100");
        Inn.book(inn, "at 7 0 to 1;at 9 0 to 0;at 9 1 to 1;at 999 1 to 0");
        // at 7 both are west: NET -120 is below -100, so that the TRUNK slides to the pin, then to the west
        due("16: SPILLED", inn.day(0), 7);
        due("16: SLID", inn.day(1), 2 + 1);
        due("16: SEATING at its end", inn.day(2), 0);
        due("16: ROOM of TRUNK 0", inn.day(3), 4);
        due("16: nothing stays", inn.seating(), 8);
        due("16: nothing stays", inn.trunk(0, 2), 0);
        dueThrow("16: day(4)", ELEMENT, () -> inn.day(4));
        dueThrow("16: day(-1)", ELEMENT, () -> inn.day(-1));
        Inn.house(inn, "slide 120");
        due("16: just SLIDE is not above", inn.day(1), 0);
        Inn.house(inn, "bound 129");
        due("16: just BOUND", inn.day(0), NONE);
        Inn.house(inn, "bound 128");
        due("16: one beyond in the last MINUTE", inn.day(0), 999);
        Inn.house(inn, "bound 114");
        due("16: one beyond in the west", inn.day(0), 7);
        Inn.book(inn, "");
        due("16: no LINE", inn.day(0), NONE);
        Inn.house(inn, "bound 8");
        due("16: spilled from the first", inn.day(0), 0);
        due("16: no TRUNK", new PinInn().day(3), NONE);
        PinInn late = Inn.of("room 1 0 1;room 0 0 1;guest 9 in 1;bound 8");
        Inn.book(late, "at 999 0 to 0");
        due("16: in the last MINUTE", late.day(0), 999);
        Inn.book(late, "at 5 0 to 0;at 5 0 to 1;at 6 0 to 0;at 6 0 to 1");
        due("16: as all LINES of a MINUTE leave it", late.day(0), NONE);
    }

    private static void dayOrder() {
        // TRUNK 0 at (0,0); to the east (2,0) twice, (5,0); north of those (2,2), and (0,1)
        PinInn inn = Inn.of("room 0 0 1;room 5 0 1;room 2 0 1;room 2 0 1;room 2 2 1;room 0 1 1;guest 200 in 4;slide 399;bound 9999",
            "trunk 1 to 1 in 0;trunk 1 to 1 in 5");
        due("16: by X first, then by Y; one MINUTE after another", inn.day(3), 4);
        // NET is 400 by X and by Y: TRUNK 0 goes (0,0) (2,0) (2,2); TRUNK 1 (0,1) has none on its line by Y but (0,0) below
        due("16: SLID", inn.day(1), 2);
        Inn.house(inn, "slide 400");
        due("16: not above", inn.day(1), 0);
        PinInn back = Inn.of("room 1 1 1;room 3 1 1;room 3 1 1;west 0;south 0;west 1;south 1;west 2;south 2;guest 200 in 0;slide 1",
            "room 1 0 1;west 3;trunk 1 to 1 in 3;bound 9999;room 1 5 1;west 4");
        // less X from (-1,0): none; less Y: (-1,-1), then less X: (-3,-1), of two the least
        due("16: down and back", back.day(3), 1);
        due("16: SLID", back.day(1), 2);
        PinInn slow = Inn.of("room 0 0 1;room 1 0 1;room 2 0 1;room 3 0 1;guest 100 in 3;slide 1;bound 330;trunk 10 to 10 in 0");
        due("16: SPILLED once it has slid far", slow.day(0), NONE);
        Inn.house(slow, "bound 329");
        due("16: SPILLED in the third MINUTE", slow.day(0), 2);
        due("16: SLID", slow.day(1), 3);
    }

    private static void live() {
        PinInn inn = Inn.of(CROSS, "guest 60 in 0;guest 60 in 1;trunk 5 to 9 in 0;bound 70;slide 100");
        Inn.book(inn, "at 7 0 to 1");
        due("17: SPILLED", inn.live(), 7);
        due("17: SEATING", inn.seating(), 9);
        due("17: TRUNK", inn.trunk(0, 2), 1);
        due("17: THE BOOK stays", inn.count(4), 1);
        due("17: again", inn.live(), 0);
        due("17: none", new PinInn().live(), NONE);
    }

    private static void seats() {
        PinInn inn = Inn.of("room 1 0 2;room 1 0 2;west 1;guest 60 in 0;guest 60 in 0;bound 0");
        due("18: SEATINGS that are LEVEL", inn.seats(2), 2);
        // the first by the ROOM of GUEST 0: he in 0, GUEST 1 in 1
        due("18: the first", inn.seats(0), 8);
        due("18: MET", inn.seats(1), 0);
        Inn.wishes(inn, 1, "want x > 9;want alone");
        due("18: most WISHES", inn.seats(0), 1);
        due("18: MET", inn.seats(1), 2);
        Inn.wishes(inn, 0, "want x > 9;want alone;want room < 1");
        due("18: by all together", inn.seats(0), 8);
        due("18: MET", inn.seats(1), 4);
        due("18: nothing stays", inn.seating(), 0);
        Inn.house(inn, "bound 120");
        due("18: all LEVEL", inn.seats(2), 4);
        Inn.house(inn, "room 1 0 1;guest 60 in 0");
        // 27 ways to sit, less those with 3 in one of the first two, or 2 or 3 in the last: all but 1 + 1 + 7
        due("18: no more than BEDS", inn.seats(2) + unlevel(inn), 27 - 9);
        Inn.house(inn, "snow 0 999;bound 10");
        due("18: none", inn.seats(0), NONE);
        due("18: none", inn.seats(1), NONE);
        due("18: none", inn.seats(2), 0);
        dueThrow("18: seats(3)", ELEMENT, () -> inn.seats(3));
        dueThrow("18: seats(-1)", ELEMENT, () -> inn.seats(-1));
        PinInn full = Inn.of("room 0 0 1;guest 1 in 0;guest 1 in 0");
        due("18: too few BEDS", full.seats(2), 0);
        PinInn stove = Inn.of("room 1 0 1;stove 50 in 0;trunk 10 to 20 in 0;guest 30 in 0;bound 100");
        due("18: at the worst", stove.seats(2), 1);
        Inn.house(stove, "bound 99");
        due("18: at the worst", stove.seats(2), 0);
    }

    /** SEATINGS of three that are beyond BOUND 120: all three of 60 on one side. */
    private static int unlevel(PinInn inn) {
        int many = 0;
        for (int s = 0; s < 512; s++) {
            int[] heads = new int[8];
            for (int g = 0; g < 3; g++) {
                heads[s >> 3 * g & 7]++;
            }
            boolean seating = heads[0] <= 2 && heads[1] <= 2 && heads[2] <= 1 && heads[0] + heads[1] + heads[2] == 3;
            many += seating && heads[0] + heads[2] == 3 ? 1 : 0;
        }
        return many;
    }

    private static void bells() {
        PinInn inn = Inn.of("room 1 0 2;room 1 0 2;west 1;guest 60 in 0;guest 60 in 0;bound 0");
        due("19: to SEATS, from what need not be LEVEL", inn.bells(NONE, NONE), 1);
        due("19: the bell", inn.bells(NONE, 0), 8 + 1);
        due("19: behind", inn.bells(NONE, 1), NONE);
        due("19: to the other", inn.bells(1, NONE), 1);
        due("19: the bell", inn.bells(1, 0), 1);
        due("19: as it is", inn.bells(0, NONE), 0);
        due("19: as it is", inn.bells(0, 0), NONE);
        due("19: not LEVEL", inn.bells(9, NONE), NONE);
        due("19: not LEVEL", inn.bells(9, 0), NONE);
        inn.go(1, 1);
        // each way round leads over a SEATING that is not LEVEL
        due("19: no way", inn.bells(1, NONE), NONE);
        dueThrow("19: k", ARGUMENT, () -> inn.bells(1, -2));
        dueThrow("19: k", ARGUMENT, () -> inn.bells(NONE, Integer.MIN_VALUE));
        dueThrow("19: a figure too many", ARGUMENT, () -> inn.bells(64, NONE));
        dueThrow("19: below NONE", ARGUMENT, () -> inn.bells(-2, NONE));
        dueThrow("19: no such ROOM", ARGUMENT, () -> inn.bells(2, NONE));
        PinInn full = Inn.of("room 0 0 1;room 0 0 1;guest 1 in 0;guest 1 in 0");
        dueThrow("19: as it is, but no SEATING", ARGUMENT, () -> full.bells(0, NONE));
        due("19: from what is no SEATING", full.bells(1, NONE), 1);
        Inn.house(full, "guest 1 in 0");
        due("19: no SEATS", full.bells(NONE, NONE), NONE);
        due("19: no SEATS", full.bells(NONE, 5), NONE);
        due("19: nobody", new PinInn().bells(NONE, NONE), 0);
        due("19: nobody", new PinInn().bells(0, 0), NONE);
        dueThrow("19: nobody", ARGUMENT, () -> new PinInn().bells(1, NONE));
    }

    private static void bellsWays() {
        PinInn inn = Inn.of("room 0 0 1;room 0 0 1;room 0 0 1;guest 1 in 0;guest 1 in 1");
        // they change ROOMS: the first way sends GUEST 0 to ROOM 2
        int[] way = {2, 8, 1, NONE};
        due("19: to change", inn.bells(1, NONE), 3);
        for (int k = 0; k < 4; k++) {
            due("19: bell " + k, inn.bells(1, k), way[k]);
        }
        PinInn free = Inn.of("room 0 0 4;room 0 0 4;guest 1 in 0;guest 1 in 0;guest 1 in 0;guest 1 in 0");
        due("19: all four", free.bells(1 + 8 + 64 + 512, NONE), 4);
        for (int k = 0; k < 4; k++) {
            due("19: by GUEST, bell " + k, free.bells(1 + 8 + 64 + 512, k), 8 * k + 1);
        }
        PinInn heavy = Inn.of("room 1 0 4;room 1 0 4;west 1;room 0 0 4;guest 50 in 0;guest 50 in 1;guest 10 in 2;bound 50");
        // to change sides the first may step to the pin, then the other over, then the first
        due("19: over the pin", heavy.bells(1 + 0 + 128, NONE), 3);
        due("19: GUEST 0 to the pin", heavy.bells(1 + 0 + 128, 0), 2);
        due("19: GUEST 1 over", heavy.bells(1 + 0 + 128, 1), 8);
        due("19: GUEST 0 on", heavy.bells(1 + 0 + 128, 2), 1);
    }

    private static void stove() {
        PinInn inn = Inn.of(CROSS, "stove 30 in 0;bound 100");
        due("20: is there", inn.stove(0), 0);
        due("20: one step", inn.stove(4), 1);
        due("20: two", inn.stove(1), 2);
        due("20: two", inn.stove(3), 2);
        Inn.house(inn, "bound 29");
        due("20: not LEVEL there", inn.stove(1), NONE);
        due("20: is there, though not LEVEL", inn.stove(0), 0);
        due("20: what it is now need not be", inn.stove(4), 1);
        Inn.house(inn, "guest 20 in 4;bound 25");
        // the GUEST must be to the east when it is in the west; he goes while it is on the pin
        due("20: a GUEST helps", inn.stove(1), 3);
        dueThrow("20: stove(5)", INDEX, () -> inn.stove(5));
        dueThrow("20: stove(-1)", INDEX, () -> inn.stove(-1));
        Inn.house(inn, "guest 1 in 4;guest 1 in 4;guest 1 in 4;bound 999");
        // three too many on the pin; he who moves to free it moves but one at a time, so that none is a SEATING
        due("20: BEDS are looked at", inn.stove(4), NONE);
        Inn.house(inn, "guest 1 in 4");
        due("20: 5 GUESTS", inn.stove(4), -3);
        due("20: 5 GUESTS, though it is there", inn.stove(0), -3);
        dueThrow("20: 5 GUESTS, no such ROOM", INDEX, () -> inn.stove(5));
        PinInn far = Inn.of("room 0 0 1;room 1 1 1;room 0 2 1;room 0 0 1");
        due("20: no step across", far.stove(1), NONE);
        due("20: no leap", far.stove(2), NONE);
        due("20: no step on the spot", far.stove(3), NONE);
    }

    private static void wake() {
        PinInn inn = Inn.of(CROSS, "guest 60 in 0;guest 60 in 0;bound 60");
        due("21: one must", inn.wake(false), 1);
        // GUEST 0 stays in 0 and GUEST 1 goes: that is the first by the ROOM of GUEST 0
        due("21: the first", inn.wake(true), 8);
        Inn.house(inn, "snow 1 60");
        due("21: none, it is LEVEL", inn.wake(false), 0);
        due("21: as it is", inn.wake(true), 0);
        Inn.house(inn, "snow 1 240");
        due("21: none helps", inn.wake(false), NONE);
        due("21: none helps", inn.wake(true), NONE);
        Inn.house(inn, "snow 1 0;snow 0 120");
        due("21: both must", inn.wake(false), 1 + 1);
        due("21: the first", inn.wake(true), 1 + 8 * 1);
        PinInn full = Inn.of("room 0 0 1;room 0 0 1;guest 1 in 1;guest 1 in 1");
        due("21: BEDS", full.wake(false), 1);
        due("21: BEDS", full.wake(true), 8);
    }

    private static void bucket() {
        PinInn inn = Inn.of(CROSS, "guest 100 in 0;bound 40");
        due("22: WEIGHT", inn.bucket(false), 60);
        due("22: ROOM", inn.bucket(true), 1);
        Inn.house(inn, "room 1 0 1;west 5;room 2 0 1;west 6");
        due("22: less further off", inn.bucket(false), 30);
        due("22: ROOM", inn.bucket(true), 6);
        Inn.house(inn, "room 2 0 1;west 7;bound 100");
        due("22: LEVEL so", inn.bucket(false), 0);
        due("22: LEVEL so", inn.bucket(true), NONE);
        Inn.house(inn, "snow 0 600;bound 99");
        due("22: 301 would do", inn.bucket(false), NONE);
        due("22: 301 would do", inn.bucket(true), NONE);
        Inn.house(inn, "bound 100");
        due("22: 300 does", inn.bucket(false), 300);
        due("22: the least ROOM", inn.bucket(true), 6);
        PinInn little = Inn.of("room 0 1 1;south 0;room 0 1 1;guest 41 in 1;bound 40");
        due("22: 1 by Y", little.bucket(false), 1);
        due("22: the first ROOM", little.bucket(true), 0);
        PinInn worst = Inn.of("room 1 0 1;trunk 0 to 50 in 0;room 1 0 1;west 1;bound 20");
        due("22: LOW and HIGH", worst.bucket(false), NONE);
        Inn.house(worst, "bound 30");
        due("22: LOW and HIGH", worst.bucket(false), 20);
    }

    private static int place(int x, int y) {
        return 19 * (y + 9) + x + 9;
    }

    private static void wing() {
        PinInn inn = Inn.of("room 1 2 1;guest 100 in 0");
        due("23: against both", inn.wing(100), place(-1, -2));
        due("23: at the edge", inn.wing(1), place(-9, -9));
        due("23: the least Y, then X", inn.wing(200), place(-1, -1));
        due("23: too heavy to help", inn.wing(999), place(0, 0));
        dueThrow("23: 0", ARGUMENT, () -> inn.wing(0));
        dueThrow("23: 1000", ARGUMENT, () -> inn.wing(1000));
        Inn.house(inn, "west 0;south 0");
        due("23: the other side", inn.wing(200), place(0, 1));
        Inn.house(inn, "trunk 9 to 300 in 0");
        due("23: TRUNKS are not in NET", inn.wing(100), place(1, 2));
        due("23: nothing", new PinInn().wing(999), place(0, 0));
    }

    private static void unnoticed() {
        PinInn inn = Inn.of(CROSS, "guest 60 in 0;guest 60 in 1");
        // they change: 1 0, 2 3, 3 2, or both to the pin
        due("24: how many", inn.unnoticed(false), 4);
        due("24: the first", inn.unnoticed(true), 0 * 512 + 1 * 64 + 1 * 8 + 0);
        Inn.house(inn, "guest 7 in 2");
        due("24: the first stays", inn.unnoticed(true), 72);
        due("24: how many", inn.unnoticed(false), 4);
        Inn.house(inn, "room 0 1 1");
        // GUEST 2 may now go from 2 to 5, at one place, while either of the others stays
        due("24: one may stay", inn.unnoticed(false), 4 + 2 + 2);
        PinInn none = Inn.of("room 1 0 1;room 2 0 1;guest 5 in 0;guest 7 in 0");
        due("24: none", none.unnoticed(false), 0);
        due("24: none", none.unnoticed(true), NONE);
        PinInn last = Inn.of("room 3 3 1;room 1 1 1;room 1 1 1;guest 5 in 0;guest 7 in 1");
        due("24: G stays, H goes", last.unnoticed(true), 64 + 0 + 2);
        due("24: how many", last.unnoticed(false), 1);
    }

    private static void readAndFits() {
        PinInn inn = Inn.of(CROSS, "guest 60 in 0;guest 60 in 0;bound 0;stove 5 in 0;snow 3 4");
        due("25: read", inn.read(5, -4), 1);
        due("26: on opposite sides", inn.fits(0), 4);
        due("25: read", inn.read(125, -4), 2);
        due("26: both east, LEVEL or not", inn.fits(1), 1);
        due("25: read", inn.read(0, 0), 3);
        due("26: none", inn.fits(2), 0);
        Inn.house(inn, "stove 0 in 0;snow 3 0");
        due("26: as THE STOVE and SNOW are now", inn.fits(2), 4);
        Inn.house(inn, "room 0 0 1");
        due("26: both on the pin", inn.fits(2), 6);
        dueThrow("26: fits(3)", INDEX, () -> inn.fits(3));
        dueThrow("26: fits(-1)", INDEX, () -> inn.fits(-1));
        for (int i = 4; i <= 8; i++) {
            due("25: read", inn.read(Integer.MIN_VALUE, Integer.MAX_VALUE), i);
        }
        dueThrow("25: a ninth", UNSUPPORTED, () -> inn.read(0, 0));
        due("25: READINGS", inn.count(5), 8);
        due("26: none", inn.fits(7), 0);
        PinInn trunk = Inn.of("room 1 0 1;trunk 5 to 5 in 0");
        trunk.read(0, 0);
        due("26: TRUNKS are not in NET", trunk.fits(0), 1);
    }

    private static void meeting() {
        PinInn inn = Inn.of(CROSS, "guest 60 in 0;guest 60 in 0;guest 30 in 0;guest 30 in 4");
        inn.read(120, 0);
        due("27: in all", inn.meeting(0, 0, 1), 2);
        inn.read(90, 60);
        // 60 and 30 east, 60 north, 30 on the pin: 0 with 2 or 3, or 1 with 2 or 3
        due("27: in none", inn.meeting(1, 0, 1), 0);
        due("27: in some", inn.meeting(1, 0, 2), 1);
        due("27: with oneself", inn.meeting(1, 3, 3), 2);
        inn.read(1, 1);
        due("27: none FITS", inn.meeting(2, 0, 1), NONE);
        due("27: none FITS", inn.meeting(2, 1, 1), NONE);
        dueThrow("27: READING", INDEX, () -> inn.meeting(3, 0, 1));
        dueThrow("27: READING", INDEX, () -> inn.meeting(-1, 0, 1));
        dueThrow("27: GUEST", INDEX, () -> inn.meeting(2, 4, 1));
        dueThrow("27: GUEST", INDEX, () -> inn.meeting(2, -1, 1));
        dueThrow("27: GUEST", INDEX, () -> inn.meeting(2, 0, 4));
        dueThrow("27: GUEST", INDEX, () -> inn.meeting(2, 0, -1));
    }

    private static void weighed() {
        PinInn inn = Inn.of("room 3 0 1;room 2 0 1;west 1;room 0 1 1;guest 10 in 0;stove 4 in 1;snow 0 1",
            "trunk 5 to 20 in 0;trunk 7 to 30 in 1;trunk 0 to 9 in 2");
        int net = 30 - 8 + 3;
        due("28: LEAST", inn.weighed(0, net - 14 + 15), 5);
        due("28: MOST", inn.weighed(0, net - 14 + 60), 20);
        due("28: below LEAST", inn.weighed(0, net - 14 + 12), NONE);
        due("28: above MOST", inn.weighed(0, net - 14 + 63), NONE);
        due("28: not whole", inn.weighed(0, net - 14 + 31), NONE);
        due("28: in the west", inn.weighed(1, net + 15 - 22), 11);
        due("28: not whole", inn.weighed(1, net + 15 - 23), NONE);
        due("28: X is 0", inn.weighed(2, net + 15 - 14), NONE);
        due("28: far off", inn.weighed(1, Integer.MAX_VALUE), NONE);
        due("28: far off", inn.weighed(1, Integer.MIN_VALUE), NONE);
        dueThrow("28: TRUNK", INDEX, () -> inn.weighed(3, 0));
        dueThrow("28: TRUNK", INDEX, () -> inn.weighed(-1, 0));
        PinInn zero = Inn.of("room 1 0 1;trunk 0 to 3 in 0");
        due("28: 0 is a WEIGHT", zero.weighed(0, 0), 0);
    }

    private static void weigh() {
        PinInn inn = Inn.of("room 3 0 1;trunk 5 to 20 in 0;trunk 5 to 20 in 0");
        dueThrow("29: below", ARGUMENT, () -> done(inn, 0, 4));
        dueThrow("29: above", ARGUMENT, () -> done(inn, 0, 21));
        dueThrow("29: TRUNK", INDEX, () -> done(inn, 2, 500));
        dueThrow("29: TRUNK", INDEX, () -> done(inn, -1, 5));
        due("29: nothing stays", inn.trunk(0, 1) - inn.trunk(0, 0), 15);
        inn.weigh(0, 20);
        due("29: LEAST", inn.trunk(0, 0), 20);
        due("29: MOST", inn.trunk(0, 1), 20);
        due("29: the other", inn.trunk(1, 0), 5);
        inn.weigh(1, 5);
        due("29: MOST of the other", inn.trunk(1, 1), 5);
        dueThrow("29: no more", ARGUMENT, () -> done(inn, 1, 6));
        due("29: LOW", inn.moment(false, 1), 75);
        due("29: HIGH", inn.moment(false, 2), 75);
    }

    private static long done(PinInn inn, int trunk, int weight) {
        inn.weigh(trunk, weight);
        return 0;
    }

    private static void night() {
        PinInn inn = Inn.of("room 0 0 1;room 0 0 1;room 0 0 1");
        int seed = 1;
        int sum = 0;
        int[] snow = new int[3];
        for (int night = 0; night < 12; night++) {
            int fell = 0;
            int n = night == 3 ? 1 : 500 - night;
            for (int r = 0; r < 3; r++) {
                seed = (int) (seed * 1103515245L + 12345L);
                int more = Math.min((seed & 0x7fffffff) / 65536 % n, 999 - snow[r]);
                snow[r] += more;
                fell += more;
            }
            sum += fell;
            due("30: night(" + n + ")", inn.night(n), fell);
            due("30: SNOW of all", inn.count(10), sum);
            due("30: SNOW", inn.room(2, 3), snow[2]);
        }
        due("30: 999 at most", inn.count(10) <= 2997 && snow[0] == 999, true);
        due("30: SEED goes on", inn.seed(0), seed);
        dueThrow("30: 0", ARGUMENT, () -> inn.night(0));
        dueThrow("30: 501", ARGUMENT, () -> inn.night(501));
        dueThrow("30: -1", ARGUMENT, () -> inn.night(-1));
        due("30: SEED stays when none is drawn", inn.seed(0), 0);
        due("30: no ROOM", new PinInn().night(500), 0);
    }

    private static void melt() {
        PinInn inn = Inn.of("room 0 0 1;room 0 0 1;room 0 0 1;snow 0 10;snow 1 3");
        due("31: melt(0)", inn.melt(0), 0);
        due("31: melt(4)", inn.melt(4), 7);
        due("31: SNOW", inn.room(0, 3), 6);
        due("31: 0 at least", inn.room(1, 3), 0);
        dueThrow("31: -1", ARGUMENT, () -> inn.melt(-1));
        due("31: nothing stays", inn.count(10), 6);
        due("31: all", inn.melt(Integer.MAX_VALUE), 6);
        due("31: none", inn.count(10), 0);
    }

    private static void seed() {
        PinInn inn = Inn.of("room 0 0 1");
        due("32: at first", inn.seed(77), 1);
        due("32: what it was", inn.seed(Integer.MIN_VALUE), 77);
        due("32: what it was", inn.seed(1), Integer.MIN_VALUE);
        // 1103527590 shifted by 16 is 16838
        due("32: it is what is drawn from", inn.night(500), 16838 % 500);
        due("32: what it was", inn.seed(0), 1103527590);
    }

    private static void rent() {
        PinInn inn = Inn.of("room 3 4 1;west 0;guest 5 in 0");
        due("33: rent", inn.rent(0, 9999, 999), 9999 - 7 * 999);
        due("33: just 0", inn.rent(0, 70, 10), 0);
        due("33: 0 at least", inn.rent(0, 69, 10), 0);
        due("33: 1", inn.rent(0, 71, 10), 1);
        due("33: nothing off", inn.rent(0, 5, 0), 5);
        due("33: nothing", inn.rent(0, 0, 999), 0);
        dueThrow("33: BASE", ARGUMENT, () -> inn.rent(0, 10000, 0));
        dueThrow("33: BASE", ARGUMENT, () -> inn.rent(0, -1, 0));
        dueThrow("33: RATE", ARGUMENT, () -> inn.rent(0, 0, 1000));
        dueThrow("33: RATE", ARGUMENT, () -> inn.rent(0, 0, -1));
        dueThrow("33: GUEST first", INDEX, () -> inn.rent(1, -1, 0));
        dueThrow("33: GUEST", INDEX, () -> inn.rent(-1, 0, 0));
    }

    private static void imageAndBack() {
        PinInn inn = Inn.of("room 3 4 2;room 1 1 2;guest 5 in 0;trunk 5 to 9 in 0;stove 6 in 1;bound 70;slide 80;snow 0 9");
        due("35: none was kept", inn.back(), false);
        Inn.wishes(inn, 0, "want stove;want alone");
        Inn.book(inn, "at 5 0 to 1");
        inn.read(1, 2);
        inn.seed(99);
        inn.image();
        String before = all(inn);
        spoil(inn);
        due("34: all is other", all(inn).equals(before), false);
        Inn.feed(inn, "bound 7");
        due("35: back", inn.back(), true);
        due("35: all is as it was", all(inn).equals(before), true);
        due("35: the TAPE stays", inn.house(), 2);
        due("35: the TAPE stays", inn.count(8), 7);
        spoil(inn);
        due("35: THE IMAGE stays", inn.back(), true);
        due("35: all is as it was", all(inn).equals(before), true);
        spoil(inn);
        inn.image();
        String later = all(inn);
        inn.go(0, 0);
        inn.back();
        due("34: one IMAGE, the latest", all(inn).equals(later), true);
        Inn.house(inn, "guest 5 in 1");
        due("35: new GUESTS have no WISHES", inn.count(11), 0);
        PinInn fewer = Inn.of("room 0 0 4;guest 1 in 0");
        fewer.image();
        Inn.house(fewer, "room 0 0 4;guest 2 in 1;snow 1 50");
        Inn.wishes(fewer, 1, "want stove");
        due("35: with more", fewer.bells(9, NONE), 1);
        fewer.back();
        dueThrow("35: no such SEATING any more", ARGUMENT, () -> fewer.bells(9, NONE));
        dueThrow("35: no such ROOM any more", ARGUMENT, () -> fewer.bells(1, NONE));
        Inn.house(fewer, "room 0 0 1;guest 2 in 0");
        due("35: a new ROOM", fewer.room(1, 3), 0);
        due("35: a new GUEST", fewer.met(NONE), 0);
    }

    private static void spoil(PinInn inn) {
        Inn.house(inn, "room 2 2 2;guest 7 in 1;trunk 0 to 3 in 1;stove 7 in 0;bound 71;slide 81;west 0;south 1");
        Inn.wishes(inn, 0, "");
        Inn.book(inn, "");
        inn.read(3, 4);
        inn.seed(98);
        inn.go(0, 1);
        inn.weigh(0, 6);
        inn.night(100);
        inn.melt(3);
        inn.live();
    }

    private static String all(PinInn inn) {
        StringBuilder text = new StringBuilder();
        for (int what = 0; what < 12; what++) {
            text.append(inn.count(what)).append(' ');
        }
        for (int r = 0; r < inn.count(0); r++) {
            for (int what = 0; what < 7; what++) {
                text.append(inn.room(r, what)).append(' ');
            }
        }
        for (int t = 0; t < inn.count(2); t++) {
            text.append(inn.trunk(t, 0)).append(' ').append(inn.trunk(t, 1)).append(' ').append(inn.trunk(t, 2)).append(' ');
        }
        int seed = inn.seed(0);
        inn.seed(seed);
        text.append(inn.seating()).append(' ').append(inn.met(NONE)).append(' ').append(seed).append(' ').append(inn.day(2));
        return text.append(' ').append(inn.fits(0)).append(' ').append(inn.moment(true, 0)).toString();
    }

    private static void count() {
        PinInn inn = Inn.of("room 3 4 2;room 1 1 2;room 0 0 1;guest 5 in 0;guest 6 in 0;trunk 5 to 9 in 0",
            "stove 66 in 2;bound 70;slide 80;snow 0 9;snow 1 4");
        Inn.wishes(inn, 0, "want stove;want alone");
        Inn.wishes(inn, 1, "want stove;want alone;want with 0");
        Inn.book(inn, "at 5 0 to 1;at 5 0 to 1;at 6 0 to 1;at 6 0 to 1");
        for (int i = 0; i < 7; i++) {
            inn.read(1, 2);
        }
        int[] want = {3, 2, 1, 2, 4, 7, 2, 66, 70, 80, 13, 5};
        for (int what = 0; what < want.length; what++) {
            due("36: count(" + what + ")", inn.count(what), want[what]);
        }
        due("36: count(12)", inn.count(12), NONE);
        due("36: count(-1)", inn.count(-1), NONE);
        due("36: count(least)", inn.count(Integer.MIN_VALUE), NONE);
    }
}
