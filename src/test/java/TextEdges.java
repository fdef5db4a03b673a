import java.util.ArrayList;
import java.util.List;

/** Edges of the TAPE and of what all texts share: promises 1 to 4, 6 and 7. */
final class TextEdges extends Edges {
    /** A LINE of each kind, its things apart by blanks, right behind THINGS. */
    private static final String[] HOUSE_LINES = {"room 9 8 4", "guest 5 in 0", "trunk 4 to 6 in 1", "stove 7 in 1", "snow 1 8",
        "bound 9", "slide 3", "west 1", "south 0"};
    private static final String THINGS = "room 1 2 3;room 3 4 1;guest 7 in 0;trunk 3 to 9 in 1;stove 5 in 1;snow 0 6;bound 900";

    private TextEdges() {
    }

    static void all() {
        edge(1, "Nothing told.", TextEdges::nothingTold);
        edge(1, "An object is used for at most 512 calls after it has been made;", TextEdges::manyCalls);
        edge(2, "Twenty bytes come behind the TAPE, of each number the highest first: how many it has;", TextEdges::twenty);
        edge(2, "NONE, and none come, if it would have more than 400.", TextEdges::fourHundred);
        edge(3, "The TAPE has its first n bytes alone: true;", TextEdges::firstBytes);
        edge(3, "false, and nothing happens, if it has fewer, or n is below 0.", TextEdges::fewerBytes);
        edge(4, "Uses the TAPE up: a text of THE HOUSE: how many there are.", TextEdges::houseTexts);
        edge(4, "IllegalArgumentException: it is wrong;", TextEdges::houseWrong);
        edge(4, "UnsupportedOperationException: there are 10.", TextEdges::eleventh);
        edge(4, "THE HOUSE is told in texts (at most 10, one behind another):", TextEdges::behindAnother);
        edge(4, "LINE { ; LINE }, at most 14:", TextEdges::fourteen);
        edge(4, "room X Y BEDS | guest W in R | trunk L to M in R | stove W in R | snow R N | bound N | slide N | west R | south R.",
            TextEdges::houseForms);
        edge(4, "Numbers are of 1 to 5 digits and not below 0;", TextEdges::digits);
        edge(4, "X, Y 0 to 9 (west R: X of ROOM R is 0 less what it is; south R: its Y);", TextEdges::turned);
        edge(4, "M not below L.", TextEdges::notBelow);
        edge(4, "R: a ROOM that there is by then.", TextEdges::byThen);
        edge(4, "BEDS are not looked at by guest LINES.", TextEdges::guestLines);
        edge(7, "Words are as long as a to z go on;", TextEdges::words);
        edge(7, "between all there may be blanks (32), also ahead and behind.", TextEdges::blanks);
        edge(7, "A text that is empty, or blanks alone, has no LINE (WISH).", TextEdges::empty);
        edge(7, "The first wrong byte: the begin of the first thing that cannot stand there", TextEdges::cannotStand);
        edge(7, "(a number of more digits, or out of its bounds, or that tells none that is there;", TextEdges::wrongNumbers);
        edge(7, "a word that is none;", TextEdges::wrongWords);
        edge(7, "of a LINE or WISH too many, or a ROOM, GUEST, TRUNK too many, the first word),", TextEdges::tooMany);
        edge(7, "or the text's length, if more must come.", TextEdges::moreMustCome);
        edge(7, "Of a wrong text nothing stays.", TextEdges::nothingStays);
        edge(7, "The first wrong byte of the latest text that was read; NONE without one, and ahead of any.", TextEdges::latest);
        edge(6, "THE BOOK (a text, in place of the one before):", TextEdges::inPlace);
        edge(6, "LINE { ; LINE }, at most 20: at M G to R:", TextEdges::bookLines);
        edge(6, "MINUTE M (0 to 999), not ahead of that of the LINE before;", TextEdges::minutes);
        edge(6, "G, R: a GUEST, a ROOM that there is.", TextEdges::bookNumbers);
        edge(6, "Uses the TAPE up: THE BOOK: how many LINES.", TextEdges::bookAnswer);
        edge(6, "IllegalArgumentException: the text is wrong.", TextEdges::bookWrong);
    }

    private static void nothingTold() {
        PinInn inn = new PinInn();
        int[] first = {0, 0, 0, 0, 0, 0, 0, 0, 1000, 2000, 0, 0};
        for (int what = 0; what < first.length; what++) {
            due("count(" + what + ")", inn.count(what), first[what]);
        }
        due("the TAPE", inn.end(1), false);
        due("fault()", inn.fault(), NONE);
        due("SEED", inn.seed(1), 1);
        due("THE IMAGE", inn.back(), false);
        due("LEVEL", inn.level(), true);
        due("met(NONE)", inn.met(NONE), 0);
        due("SPILLED", inn.day(0), NONE);
        due("SLID", inn.day(1), 0);
        due("SEATING at its end", inn.day(2), 0);
        due("TRUNK 0", inn.day(3), NONE);
        due("live()", inn.live(), NONE);
        due("seats(0)", inn.seats(0), 0);
        due("seats(1)", inn.seats(1), 0);
        due("seats(2)", inn.seats(2), 1);
        due("bells", inn.bells(NONE, NONE), 0);
        due("wake", inn.wake(false), 0);
        due("wake", inn.wake(true), 0);
        due("bucket", inn.bucket(false), 0);
        due("bucket", inn.bucket(true), NONE);
        due("wing", inn.wing(1), 180);
        due("unnoticed", inn.unnoticed(false), 0);
        due("unnoticed", inn.unnoticed(true), NONE);
        due("night", inn.night(500), 0);
        due("melt", inn.melt(MOST_INT), 0);
        due("house() of nothing", inn.house(), 1);
        due("book() of nothing", inn.book(), 0);
    }

    private static void manyCalls() {
        PinInn inn = Inn.of("room 1 0 1;room 0 0 1;guest 5 in 0");
        for (int i = 4; i < 511; i++) {
            inn.go(0, i % 2);
        }
        due("call 511", inn.go(0, 1), 0);
        due("call 512", inn.where(0), 1);
    }

    private static void twenty() {
        PinInn inn = new PinInn();
        // "room 0 0 1;bound 7; ", then "guest 1 in 0;slide 8"
        due("20", inn.feed(0x726f6f6d, 0x20302030, 0x20313b62, 0x6f756e64, 0x20373b20), 20);
        due("40", inn.feed(0x67756573, 0x74203120, 0x696e2030, 0x3b736c69, 0x64652038), 40);
        due("read", inn.house(), 1);
        due("a ROOM", inn.count(0), 1);
        due("a GUEST", inn.count(1), 1);
        due("BOUND", inn.count(8), 7);
        due("SLIDE", inn.count(9), 8);
        due("from the begin again", inn.feed(0, 0, 0, 0, 0), 20);
        due("wrong", answer(inn::house), Long.MIN_VALUE);
        due("byte 0 is none that may stand", inn.fault(), 0);
        inn.feed(0x20202020, 0x202020ff, -1, -1, -1);
        due("wrong", answer(inn::house), Long.MIN_VALUE);
        due("byte 255 is none that may stand", inn.fault(), 7);
    }

    private static void fourHundred() {
        PinInn inn = new PinInn();
        for (int i = 1; i <= 20; i++) {
            due("feed " + i, inn.feed(0x20202020, 0x20202020, 0x20202020, 0x20202020, 0x20202020), 20 * i);
        }
        due("420 would be too many", inn.feed(0x78787878, 0x78787878, 0x78787878, 0x78787878, 0x78787878), NONE);
        due("none came", inn.end(401), false);
        due("all are blanks", inn.house(), 1);
        for (int left = 379; left <= 382; left++) {
            PinInn cut = new PinInn();
            for (int i = 1; i <= 20; i++) {
                cut.feed(0x20202020, 0x20202020, 0x20202020, 0x20202020, 0x20202020);
            }
            cut.end(left);
            due("behind " + left, cut.feed(0, 0, 0, 0, 0), left <= 380 ? left + 20 : NONE);
            due("how many", !cut.end(left + 21) && cut.end(left + 20), left <= 380);
        }
    }

    private static void firstBytes() {
        PinInn inn = new PinInn();
        due("0 of 0", inn.end(0), true);
        inn.feed(0x626f756e, 0x64203132, 0x33343536, 0x20202020, 0x20202020);
        due("all 20", inn.end(20), true);
        due("10", inn.end(10), true);
        due("not 11 any more", inn.end(11), false);
        due("house", inn.house(), 1);
        due("a number is cut behind its fourth digit", inn.count(8), 1234);
        inn.feed(0x626f756e, 0x64203132, 0, 0, 0);
        due("0 of 20", inn.end(0), true);
        due("nothing is left", inn.end(1), false);
        due("20 bytes behind nothing", inn.feed(0, 0, 0, 0, 0), 20);
    }

    private static void fewerBytes() {
        PinInn inn = new PinInn();
        due("1 of 0", inn.end(1), false);
        due("-1 of 0", inn.end(-1), false);
        Inn.feed(inn, "bound 45");
        due("9 of 8", inn.end(9), false);
        due("the most", inn.end(MOST_INT), false);
        due("-1", inn.end(-1), false);
        due("the least", inn.end(LEAST_INT), false);
        due("nothing happened", inn.house(), 1);
        due("nothing happened", inn.count(8), 45);
    }

    private static void houseTexts() {
        PinInn inn = new PinInn();
        for (int i = 1; i <= 10; i++) {
            due("text " + i, Inn.house(inn, i % 2 == 0 ? "" : "bound " + i), i);
            due("used up", inn.end(1), false);
            due("count(3)", inn.count(3), i);
        }
    }

    private static void houseWrong() {
        PinInn inn = Inn.of("bound 5");
        wrongHouse(inn, "bound 6;^x");
        due("it is no text of THE HOUSE", inn.count(3), 1);
        due("the next one is the second", Inn.house(inn, "bound 6"), 2);
        Inn.feed(inn, "bound 7;");
        due("wrong", answer(inn::house), Long.MIN_VALUE);
        due("used up, so that the next is read alone", Inn.house(inn, "bound 8"), 3);
        due("BOUND", inn.count(8), 8);
    }

    private static PinInn ofTen() {
        PinInn inn = new PinInn();
        for (int i = 1; i <= 10; i++) {
            Inn.house(inn, "bound " + i);
        }
        return inn;
    }

    private static void eleventh() {
        PinInn inn = ofTen();
        String before = look(inn);
        dueThrow("an eleventh", UNSUPPORTED, () -> Inn.house(inn, "bound 5;room 0 0 1"));
        due("used up", inn.end(1), false);
        due("nothing else changes", look(inn).equals(before), true);
        dueThrow("an eleventh, of no LINE", UNSUPPORTED, () -> Inn.house(inn, ""));
        due("still 10", inn.count(3), 10);
        PinInn nine = new PinInn();
        for (int i = 1; i <= 9; i++) {
            Inn.house(nine, "");
        }
        nine.image();
        due("a tenth", Inn.house(nine, "bound 5"), 10);
        nine.back();
        due("a tenth again", Inn.house(nine, "bound 6"), 10);
        dueThrow("an eleventh", UNSUPPORTED, () -> Inn.house(nine, "bound 7"));
    }

    private static void behindAnother() {
        PinInn inn = Inn.of("room 1 2 3", "room 4 5 1", "guest 7 in 1", "guest 8 in 0", "trunk 1 to 2 in 1", "bound 5", "bound 6",
            "snow 1 9", "west 1", "west 1");
        due("ROOMS", inn.count(0), 2);
        due("X of the second, twice turned", inn.room(1, 0), 4);
        due("GUESTS", inn.seating(), 1);
        due("the latest BOUND", inn.count(8), 6);
        due("SNOW", inn.room(1, 3), 9);
        due("TRUNK", inn.trunk(0, 2), 1);
    }

    private static void fourteen() {
        due("1", Inn.of("bound 1").count(8), 1);
        PinInn inn = Inn.of(lines("bound 5", 13) + ";bound 6");
        due("the 14th is read", inn.count(8), 6);
        wrongAfter("bound 7", lines("bound 5", 14) + ";^bound 6", lines("bound 5", 14) + ";^x", lines("bound 5", 14) + ";^",
            lines("bound 5", 14) + " ^5;bound 5", lines("bound 5", 14) + ";^;");
        due("14 in each text", Inn.of(lines("bound 5", 14), lines("bound 6", 14)).count(3), 2);
    }

    /** Of a right LINE: cut behind each thing, with another in its place, with one more behind: each wrong just there. */
    private static List<String> wrongForms(String line) {
        List<String> marked = new ArrayList<>();
        String[] things = line.split(" ");
        StringBuilder ahead = new StringBuilder();
        for (String thing : things) {
            if (ahead.length() > 0) {
                marked.add(ahead + "^");
                marked.add(ahead + "  ^");
                marked.add(ahead + "^;" + line);
                ahead.append(' ');
            }
            marked.add(ahead + "^?");
            marked.add(ahead + "^;");
            marked.add(ahead + (Character.isDigit(thing.charAt(0)) ? "^in" : "^5"));
            marked.add(ahead + "^" + thing + (Character.isDigit(thing.charAt(0)) ? "00000" : "x"));
            ahead.append(thing);
        }
        marked.add(line + " ^0");
        marked.add(line + " ^" + things[0]);
        marked.add(line + "^,");
        marked.add(line + " ;^");
        marked.add(line + ";^;" + line);
        return marked;
    }

    private static void houseForms() {
        for (String line : HOUSE_LINES) {
            rightAfter(THINGS, line, line + ";bound 5", "bound 5;" + line);
            for (String marked : wrongForms(line)) {
                wrongAfter(THINGS, marked, "bound 5 ; " + marked);
            }
        }
        wrongAfter(THINGS, "^at 5 0 to 0", "^want alone", "^in", "^to", "^0", "^;", "^(", "bound 5^,");
    }

    private static void digits() {
        for (String line : HOUSE_LINES) {
            String[] things = line.split(" ");
            for (int i = 1; i < things.length; i++) {
                String thing = things[i];
                if (Character.isDigit(thing.charAt(0))) {
                    things[i] = "0000" + thing;
                    rightAfter(THINGS, String.join(" ", things));
                    things[i] = "^00000" + thing;
                    wrongAfter(THINGS, String.join(" ", things));
                    things[i] = "^-" + thing;
                    wrongAfter(THINGS, String.join(" ", things));
                    things[i] = thing;
                }
            }
        }
        due("5 digits", Inn.of("bound 00012").count(8), 12);
        due("5 digits", Inn.of("bound 00000").count(8), 0);
        wrongAfter("", "bound ^000000", "bound ^123456", "bound ^99999999999999999999", "bound ^4294967297");
        due("a number is as long as digits go on", Inn.of("bound 12345").count(8), 12345);
        wrongAfter("", "room ^123", "room 1 ^23");
    }

    private static void turned() {
        PinInn inn = Inn.of("room 9 8 1;room 0 7 1;room 6 0 1");
        Inn.house(inn, "west 0");
        due("X is less", inn.room(0, 0), -9);
        due("Y stays", inn.room(0, 1), 8);
        Inn.house(inn, "south 0;west 0");
        due("X is as it was", inn.room(0, 0), 9);
        due("Y is less", inn.room(0, 1), -8);
        Inn.house(inn, "west 1;south 2");
        due("0 less 0", inn.room(1, 0), 0);
        due("0 less 0", inn.room(2, 1), 0);
        due("others stay", inn.room(1, 1), 7);
        due("others stay", inn.room(2, 0), 6);
        Inn.house(inn, "west 2;room 4 4 1;west 3;south 3;guest 10 in 2");
        due("a ROOM of the same text", inn.room(3, 0), -4);
        due("a ROOM of the same text", inn.room(3, 1), -4);
        due("MOMENT", inn.moment(false, 0), -60);
    }

    private static void notBelow() {
        rightAfter("room 0 0 1", "trunk 5 to 5 in 0", "trunk 5 to 6 in 0", "trunk 0 to 0 in 0", "trunk 300 to 300 in 0");
        wrongAfter("room 0 0 1", "trunk 5 to ^4 in 0", "trunk 1 to ^0 in 0", "trunk 300 to ^299 in 0", "trunk 300 to ^00030 in 0");
    }

    private static void byThen() {
        wrongAfter("", "guest 5 in ^0", "trunk 1 to 2 in ^0", "stove 5 in ^0", "snow ^0 5", "west ^0", "south ^0");
        wrongAfter("", "guest 5 in ^0;room 0 0 1", "west ^0;room 0 0 1", "room 0 0 1;trunk 1 to 2 in ^1;room 0 0 1",
            "room 0 0 1;stove 5 in ^1;room 0 0 1", "room 0 0 1;snow ^1 5;room 0 0 1", "room 0 0 1;south ^1;room 0 0 1");
        rightAfter("", "room 0 0 1;guest 5 in 0;trunk 1 to 2 in 0;stove 5 in 0;snow 0 5;west 0;south 0");
        rightAfter("room 0 0 1", "guest 5 in 0;room 0 0 1;guest 5 in 1", "room 0 0 1;west 1", "room 0 0 1;snow 1 1");
        wrongAfter("room 0 0 1", "room 0 0 1;guest 5 in ^2", "guest 5 in ^1;room 0 0 1", "west ^99999", "snow ^7 1");
    }

    private static void guestLines() {
        PinInn inn = Inn.of("room 0 0 1", lines("guest 5 in 0", 5));
        due("5 GUESTS in a ROOM of one bed", inn.room(0, 5), 5);
        due("which is no SEATING", inn.seats(2), 0);
    }

    private static void words() {
        rightAfter("room 0 0 1", "room1 2 3", "guest5in0", "trunk1to2in0", "stove5in0", "bound7;slide8", "west0;south0;snow0 5");
        wrongAfter("room 0 0 1", "^rooma 1 2 3", "^roomz 1 2 3", "^roo 1 2 3", "^roomroom 1 2 3", "^Room 1 2 3", "^rOom 1 2 3",
            "room^`1 2 3", "room^{1 2 3", "room^A1 2 3", "room^Z 1 2 3", "guest 5 ^inn 0", "guest 5 ^i n 0", "guest 5 ^into 0",
            "^ro om 1 2 3", "bound 5;^boundslide 5", "guest 5 ^ain 0", "west^_ 0");
        PinInn inn = Inn.of("room 0 0 1;guest 5 in 0");
        due("no blank is needed", Inn.wishes(inn, 0, "want(alone)and not(stove)or x<5;want 5>x"), 2);
        for (String marked : new String[] {"^wantalone", "want ^notalone", "want ^xx < 5", "want ^aloneor stove", "want x<5^andy<5"}) {
            wrongWishes(Inn.of("room 0 0 1;guest 5 in 0"), 0, marked);
        }
        due("no blank is needed", Inn.book(inn, "at5 0to0"), 1);
        wrongBook(inn, "^att 5 0 to 0");
    }

    private static void blanks() {
        rightAfter("room 0 0 1", "  bound   5  ", "bound 5;bound 6", "bound 5  ;  bound 6", "   bound 5");
        PinInn inn = Inn.of("   room    1   2    3   ;   trunk   4   to   5   in   0   ");
        due("X", inn.room(0, 0), 1);
        due("MOST", inn.trunk(0, 1), 5);
        wrongAfter("room 0 0 1", "bound^\t5", "bound 5^\n", "^\rbound 5", "bound^\u00005", "bound 5^\u0000", "bound^\u00a05", "^\u000bx",
            "bound^\u001f5", "bound^!5", "   ^\t");
        PinInn guest = Inn.of("room 0 0 1;guest 5 in 0");
        due("WISHES", Inn.wishes(guest, 0, "  want  (  not  alone  )  ;  want  x  +  5  <  6  "), 2);
        due("THE BOOK", Inn.book(guest, "  at  5  0  to  0  ;  at  5  0  to  0  "), 2);
        wrongAfter("room 0 0 1", "bound 1 ^2", "bound 5 ^bound 6");
    }

    private static void empty() {
        String[] texts = {"", " ", "   ", " ".repeat(20), " ".repeat(400)};
        for (String text : texts) {
            PinInn inn = Inn.of("room 0 0 1;guest 5 in 0");
            due("house", Inn.house(inn, text), 2);
            due("ROOMS stay", inn.count(0), 1);
            Inn.wishes(inn, 0, "want alone");
            Inn.book(inn, "at 5 0 to 0");
            due("wishes", Inn.wishes(inn, 0, text), 0);
            due("of all", inn.count(11), 0);
            due("book", Inn.book(inn, text), 0);
            due("LINES", inn.count(4), 0);
            due("fault()", inn.fault(), NONE);
        }
        wrongAfter("", "^;", " ^;", "^; ", " ^;;");
    }

    private static void cannotStand() {
        wrongAfter("room 0 0 1", "^x", "  ^x", "bound ^x 7 8 9", "bound 5 ^6 7 x", "bound 5;^6;x", "guest 5 ^to 0", "guest 5 in ^in",
            "room 1 1 1;guest 5 in 1;west ^2;x", "bound ^100000;room", "room 0 ^x 99", "trunk 1 ^in 0", "^\u00ff", "bound 5^\u00ff");
        PinInn inn = Inn.of("room 0 0 1;guest 5 in 0");
        wrongWishes(inn, 0, "want x ^= 5");
        wrongBook(inn, "at 5 ^1 to 9");
    }

    private static void wrongNumbers() {
        wrongAfter("room 0 0 1", "bound ^000005", "room ^000001 1 1", "guest ^000001 in 0", "guest 1 in ^000000");
        wrongAfter("room 0 0 1", "room ^10 1 1", "guest ^0 in 0", "guest ^201 in 0", "stove ^1000 in 0", "snow 0 ^1000");
        wrongAfter("room 0 0 1", "guest 5 in ^1", "stove 5 in ^1", "snow ^1 5", "west ^1", "south ^1", "trunk 1 to 2 in ^1");
        for (String marked : new String[] {"at ^1000 0 to 0", "at 5 ^1 to 0", "at 5 0 to ^1", "at ^000005 0 to 0", "at 5 ^000000 to 0",
            "at 5 0 to ^000000"}) {
            wrongBook(Inn.of("room 0 0 1;guest 5 in 0"), marked);
        }
        for (String marked : new String[] {"want with ^5", "want with ^000000", "want ^000005 < x", "want x < ^000005", "want x < 5 + ^100000"}) {
            wrongWishes(Inn.of("room 0 0 1;guest 5 in 0"), 0, marked);
        }
    }

    private static void wrongWords() {
        wrongAfter("room 0 0 1", "^rooms 1 1 1", "^a", "^z", "bound 5;^x", "guest 5 ^at 0", "stove 5 ^room 0");
        for (String marked : new String[] {"want ^zz", "^wants alone", "want alone ^nor stove", "want ^guest", "want ^or", "want x < ^alone"}) {
            wrongWishes(Inn.of("room 0 0 1;guest 5 in 0"), 0, marked);
        }
        wrongBook(Inn.of("room 0 0 1;guest 5 in 0"), "at 5 0 ^in 0");
        wrongBook(Inn.of("room 0 0 1;guest 5 in 0"), "^room 5 0 to 0");
    }

    private static void tooMany() {
        wrongAfter("", lines("bound 5", 14) + "  ;  ^bound 5", lines("bound 5", 14) + ";^bound x");
        wrongAfter("", lines("room 1 1 1", 8) + " ; ^room 1 1 1;x", lines("room 1 1 1", 8) + ";bound 5;^room x");
        wrongAfter("room 1 1 1", lines("guest 5 in 0", 5) + " ; ^guest 5 in 9", lines("trunk 1 to 2 in 0", 6) + " ; ^trunk 9");
        PinInn inn = Inn.of("room 0 0 1;guest 5 in 0");
        wrongWishes(inn, 0, lines("want alone", 8) + " ;  ^want alone");
        wrongBook(inn, lines("at 5 0 to 0", 20) + " ;  ^at 5 0 to 0");
        // 8 ROOMS and 14 LINES: the 15th LINE is too many of both
        wrongAfter("", lines("room 1 1 1", 8) + ";" + lines("bound 5", 6) + ";^room 1 1 1");
    }

    private static void moreMustCome() {
        for (String line : HOUSE_LINES) {
            String[] things = line.split(" ");
            StringBuilder ahead = new StringBuilder();
            for (int i = 0; i + 1 < things.length; i++) {
                ahead.append(i == 0 ? "" : " ").append(things[i]);
                wrongAfter(THINGS, ahead + "^", ahead + " ^", ahead + "     ^", "bound 5;" + ahead + "^");
            }
        }
        wrongAfter("", "bound 5;^", "bound 5 ;  ^", lines("bound 5", 14) + ";   ^");
        PinInn full = new PinInn();
        for (int i = 0; i < 20; i++) {
            full.feed(0x20202020, 0x20202020, 0x20202020, 0x20202020, i < 19 ? 0x20202020 : 0x77657374);
        }
        due("a word at the very end of 400 bytes", answer(full::house), Long.MIN_VALUE);
        due("fault()", full.fault(), 400);
        wrongBook(Inn.of("room 0 0 1;guest 5 in 0"), "at 5 0 to ^");
        wrongWishes(Inn.of("room 0 0 1;guest 5 in 0"), 0, "want ^");
    }

    private static void nothingStays() {
        for (String line : HOUSE_LINES) {
            wrongAfter(THINGS, line + ";^x", line + ";^", line + ";bound 5;^");
        }
        PinInn most = Inn.of("room 1 1 1");
        wrongHouse(most, lines("room 1 1 1", 7) + ";^x");
        wrongHouse(most, lines("guest 1 in 0", 5) + ";^x");
        wrongHouse(most, lines("trunk 1 to 2 in 0", 6) + ";^x");
        due("as many as may be are still free", Inn.house(most, lines("room 1 1 1", 7)), 2);
        due("GUESTS", Inn.house(most, lines("guest 1 in 7", 5)), 3);
        due("TRUNKS", Inn.house(most, lines("trunk 1 to 2 in 7", 6)), 4);
        PinInn inn = Inn.of(THINGS);
        Inn.wishes(inn, 0, "want alone");
        Inn.book(inn, "at 5 0 to 1");
        wrongWishes(inn, 0, "want not alone;want alone;^x");
        wrongBook(inn, "at 4 0 to 0;at 5 0 to 0;^x");
        due("the WISH stays", inn.met(0), 1);
        due("the LINE stays", inn.day(2), 1);
        wrongHouse(inn, "room 1 1 1;guest 9 in 2;^x");
        due("a ROOM of it is not there", answer(() -> Inn.house(inn, "guest 9 in 2")), Long.MIN_VALUE);
        due("fault()", inn.fault(), 11);
    }

    private static void latest() {
        PinInn inn = new PinInn();
        due("ahead of any", inn.fault(), NONE);
        Inn.feed(inn, "x");
        due("fed, not read", inn.fault(), NONE);
        due("wrong", answer(inn::house), Long.MIN_VALUE);
        due("at the first byte", inn.fault(), 0);
        due("asked again", inn.fault(), 0);
        due("right", Inn.house(inn, "room 0 0 1;guest 1 in 0"), 1);
        due("NONE without one", inn.fault(), NONE);
        due("wrong", answer(() -> Inn.wishes(inn, 0, "want x <")), Long.MIN_VALUE);
        due("of WISHES", inn.fault(), 8);
        due("right", Inn.book(inn, ""), 0);
        due("NONE without one", inn.fault(), NONE);
        due("wrong", answer(() -> Inn.book(inn, "at 5")), Long.MIN_VALUE);
        due("of THE BOOK", inn.fault(), 4);
        due("right", Inn.wishes(inn, 0, ""), 0);
        due("NONE without one", inn.fault(), NONE);
        due("wrong", answer(() -> Inn.book(inn, "at 5 5")), Long.MIN_VALUE);
        due("there is no GUEST 1", answer(() -> Inn.wishes(inn, 1, "x")), Long.MIN_VALUE);
        due("that text was not read", inn.fault(), 5);
        PinInn ten = ofTen();
        due("wrong", answer(() -> Inn.house(ten, "bound 5 5")), Long.MIN_VALUE);
        due("of an eleventh", ten.fault(), 8);
        due("an eleventh", answer(() -> Inn.house(ten, "bound 5")), Long.MIN_VALUE);
        due("it was read, and is right", ten.fault(), NONE);
    }

    private static void inPlace() {
        PinInn inn = Inn.of("room 0 0 1;room 0 0 1;guest 5 in 0;guest 5 in 0");
        due("two", Inn.book(inn, "at 5 0 to 1;at 6 1 to 1"), 2);
        due("SEATING", inn.day(2), 011);
        due("one in their place", Inn.book(inn, "at 5 1 to 1"), 1);
        due("SEATING", inn.day(2), 010);
        wrongBook(inn, "at 5 0 to 1;^x");
        due("a wrong one leaves it", inn.day(2), 010);
        due("none in its place", Inn.book(inn, ""), 0);
        due("SEATING", inn.day(2), 0);
    }

    private static void bookLines() {
        String things = "room 0 0 1;room 0 0 1;guest 5 in 0;guest 5 in 0";
        PinInn inn = Inn.of(things);
        due("20", Inn.book(inn, lines("at 5 0 to 0", 19) + ";at 5 0 to 1"), 20);
        due("the 20th is walked", inn.day(2), 1);
        wrongBook(inn, lines("at 5 0 to 0", 20) + ";^at 5 0 to 1");
        wrongBook(inn, lines("at 5 0 to 0", 20) + ";^");
        wrongBook(inn, lines("at 5 0 to 0", 20) + ";^x");
        for (String marked : wrongForms("at 5 0 to 1")) {
            wrongBook(Inn.of(things), marked);
        }
        for (String right : new String[] {"at 5 0 to 1", "at 5 0 to 1;at 5 0 to 1", "at 00005 00000 to 00001"}) {
            due(right, answer(() -> Inn.book(Inn.of(things), right)), right.split(";").length);
        }
    }

    private static void minutes() {
        String things = "room 0 0 1;room 0 0 1;guest 5 in 0;guest 5 in 0";
        for (String right : new String[] {"at 0 0 to 1", "at 999 0 to 1", "at 5 0 to 0;at 5 1 to 1;at 6 0 to 1", "at 0 0 to 0;at 999 0 to 0"}) {
            due(right, answer(() -> Inn.book(Inn.of(things), right)), right.split(";").length);
        }
        for (String marked : new String[] {"at ^1000 0 to 1", "at ^-1 0 to 1", "at 5 0 to 0;at ^4 0 to 0", "at 999 0 to 0;at ^998 0 to 0",
            "at 1 0 to 0;at ^0000 0 to 0", "at 3 0 to 0;at 7 0 to 0;at ^6 0 to 0", "at ^99999 0 to 1"}) {
            wrongBook(Inn.of(things), marked);
        }
        PinInn inn = Inn.of(things);
        Inn.book(inn, "at 999 0 to 1");
        due("the LINE before is of the same text alone", Inn.book(inn, "at 0 0 to 1"), 1);
    }

    private static void bookNumbers() {
        String things = "room 0 0 1;room 0 0 1;guest 5 in 0;guest 5 in 0;guest 5 in 0";
        due("the last of each", answer(() -> Inn.book(Inn.of(things), "at 5 2 to 1")), 1);
        wrongBook(Inn.of(things), "at 5 ^3 to 1");
        wrongBook(Inn.of(things), "at 5 2 to ^2");
        wrongBook(Inn.of("room 0 0 1"), "at 5 ^0 to 0");
        wrongBook(new PinInn(), "at 5 ^0 to 0");
        wrongBook(Inn.of(things), "at 5 ^-1 to 0");
        wrongBook(Inn.of(things), "at 5 0 to ^-1");
    }

    private static void bookAnswer() {
        PinInn inn = Inn.of("room 0 0 1;guest 5 in 0");
        for (int n = 1; n <= 20; n++) {
            due("LINES", Inn.book(inn, lines("at 7 0 to 0", n)), n);
            due("count(4)", inn.count(4), n);
            due("used up", inn.end(1), false);
        }
        due("none", Inn.book(inn, " "), 0);
        due("count(4)", inn.count(4), 0);
    }

    private static void bookWrong() {
        PinInn inn = Inn.of("room 0 0 1;guest 5 in 0");
        wrongBook(inn, "at 5 0 to 0;^");
        wrongBook(inn, "^0");
        due("the next one is read alone", Inn.book(inn, "at 5 0 to 0"), 1);
    }
}
