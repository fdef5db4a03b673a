import java.util.ArrayList;
import java.util.List;

/** Edges of WISHES: promises 5 and 15. */
final class WishEdges extends Edges {
    /** GUEST 0 sits at -9 9, beside GUEST 1, in ROOM 7 with SNOW 999 and THE STOVE; GUEST 2 sits in ROOM 0 at 9 -9. */
    private static final String[] CORNERS = {"room 9 9 1;south 0;" + lines("room 0 0 1", 6) + ";room 9 9 4;west 7",
        "stove 0 in 7;snow 7 999;guest 1 in 7;guest 1 in 7;guest 1 in 0"};

    private WishEdges() {
    }

    static void all() {
        edge(5, "Uses the TAPE up: WISHES of a GUEST: how many.", WishEdges::howMany);
        edge(5, "IllegalArgumentException: the text is wrong.", WishEdges::wrongTexts);
        edge(5, "WISHES of a GUEST (a text each, in place of the one before):", WishEdges::inPlace);
        edge(5, "WISH { ; WISH }, at most 8: want C.", WishEdges::eight);
        edge(5, "C: ALL { or ALL };", WishEdges::ors);
        edge(5, "ALL: ATOM { and ATOM };", WishEdges::ands);
        edge(5, "ATOM: not ATOM | ( C ) | alone | with G | stove | SUM < SUM | SUM > SUM.", WishEdges::atoms);
        edge(5, "SUM: PART { + PART };", WishEdges::sums);
        edge(5, "PART: NUMBER (1 to 5 digits) | x | y | far | heads | snow | room.", WishEdges::parts);
        edge(15, "G: 0 to 4 (with oneself: yes; with one who is not there: no).", WishEdges::withWhom);
        edge(15, "x, y: X and 9, Y and 9 of the GUEST's ROOM;", WishEdges::places);
        edge(15, "heads: GUESTS in it;", WishEdges::heads);
        edge(15, "snow: SNOW there;", WishEdges::snow);
        edge(15, "room: its number;", WishEdges::roomNumber);
        edge(15, "stove: THE STOVE is there;", WishEdges::stove);
        edge(15, "alone: heads is 1.", WishEdges::alone);
        edge(15, "MET: how many WISHES hold.", WishEdges::howManyHold);
        edge(15, "MET by a GUEST (NONE: by all).", WishEdges::byAll);
        edge(5, "( and not within one another at most 6 deep.", WishEdges::sixDeep);
        edge(7, "the ( or not that is a 7th one deep;", WishEdges::seventh);
    }

    private static PinInn guest() {
        return Inn.of("room 0 0 1;guest 5 in 0");
    }

    private static void wrong(String... marked) {
        for (String text : marked) {
            wrongWishes(guest(), 0, text);
        }
    }

    /** Whether GUEST 0, alone in a ROOM on the pin, has the one WISH MET. */
    private static void holds(String wish, boolean want) {
        holds(guest(), 0, wish, want);
    }

    private static void holds(PinInn inn, int guest, String wish, boolean want) {
        due(wish, answer(() -> Inn.wishes(inn, guest, "want " + wish)), 1);
        due(wish + ": fault()", inn.fault(), NONE);
        due(wish + " of GUEST " + guest, inn.met(guest), want ? 1 : 0);
    }

    /** A word of SUM is just so much: neither less nor more. */
    private static void equal(PinInn inn, int guest, String sum, int want) {
        holds(inn, guest, sum + " < " + want, false);
        holds(inn, guest, sum + " > " + want, false);
        holds(inn, guest, want + " + 1 > " + sum, true);
        holds(inn, guest, sum + " + 1 > " + want, true);
    }

    private static void howMany() {
        PinInn inn = guest();
        for (int n = 1; n <= 8; n++) {
            due(n + " WISHES", Inn.wishes(inn, 0, lines("want alone", n)), n);
            due("count(11)", inn.count(11), n);
            due("used up", inn.end(1), false);
        }
        due("none", Inn.wishes(inn, 0, " "), 0);
        PinInn five = Inn.of("room 0 0 1;" + lines("guest 5 in 0", 5));
        for (int g = 0; g < 5; g++) {
            due("8 of GUEST " + g, Inn.wishes(five, g, lines("want with 4", 8)), 8);
        }
        due("of all", five.count(11), 40);
        due("MET by all", five.met(NONE), 40);
    }

    private static void wrongTexts() {
        PinInn inn = guest();
        Inn.wishes(inn, 0, "want alone;want stove");
        wrongWishes(inn, 0, "want alone;^");
        due("the next one is read alone", Inn.wishes(inn, 0, "want alone"), 1);
        wrong("^alone", "^bound 5", "^at 5 0 to 0", "^;", "^0", "want ^want", "want alone ^want", "want alone^,want alone");
    }

    private static void inPlace() {
        PinInn inn = Inn.of("room 0 0 2;guest 5 in 0;guest 5 in 0");
        Inn.wishes(inn, 0, "want stove;want with 1;want with 0");
        Inn.wishes(inn, 1, "want stove;want stove");
        due("GUEST 0", inn.met(0), 3);
        Inn.wishes(inn, 0, "want alone");
        due("in their place", inn.met(0), 0);
        due("of all", inn.count(11), 3);
        due("those of GUEST 1 stay", inn.met(1), 2);
        Inn.wishes(inn, 0, "");
        due("none in their place", inn.count(11), 2);
        wrongWishes(inn, 1, "want stove;^x");
        due("a wrong text leaves them", inn.met(1), 2);
    }

    private static void eight() {
        PinInn inn = guest();
        due("8", Inn.wishes(inn, 0, lines("want stove", 7) + ";want alone"), 8);
        due("the 8th counts", inn.met(0), 8);
        wrong(lines("want alone", 8) + ";^want alone", lines("want alone", 8) + ";^", lines("want alone", 8) + ";^x",
            lines("want alone", 8) + " ^alone");
    }

    private static void ors() {
        holds("alone or with 4", true);
        holds("with 4 or alone", true);
        holds("with 4 or with 3", false);
        holds("with 4 or with 3 or with 2 or alone", true);
        holds("alone or alone or alone", true);
        holds("alone or with 4 and with 3", true);
        holds("(alone or with 4) and with 3", false);
        wrong("want ^or alone", "want alone or^", "want alone or ^;want alone", "want alone or ^or alone", "want alone ^nor alone",
            "want alone or ^and alone");
        // some 380 of 400 bytes
        holds("with 1" + " or with 1".repeat(36), false);
        holds("with 1" + " or with 1".repeat(36) + " or alone", true);
    }

    private static void ands() {
        holds("alone and alone", true);
        holds("alone and with 4", false);
        holds("with 4 and alone", false);
        holds("with 4 and with 3", false);
        holds("alone and alone and alone and with 4", false);
        holds("with 4 and alone or alone", true);
        holds("with 4 and (alone or alone)", false);
        holds("alone and stove" + " and stove".repeat(30), true);
        holds("alone and stove" + " and stove".repeat(30) + " and with 4", false);
        wrong("want ^and alone", "want alone and^", "want alone and ^and alone", "want alone and ^or alone", "want alone ^not alone");
    }

    private static void atoms() {
        holds("not alone", false);
        holds("not with 4", true);
        holds("(alone)", true);
        holds("((with 4))", false);
        holds("alone", true);
        holds("with 0", true);
        holds("stove", true);
        holds("0 < 1", true);
        holds("1 < 1", false);
        holds("1 < 0", false);
        holds("1 > 0", true);
        holds("1 > 1", false);
        holds("0 > 1", false);
        holds("not with 4 and with 4", false);
        holds("not (with 4 and with 4)", true);
        holds("not with 4 or alone", true);
        holds("not (with 4 or alone)", false);
        wrong("want ^", "want not^", "want not not^", "want ^)", "want (^)", "want (alone^", "want (alone^;want alone",
            "want alone^)", "want ((alone)^", "want with^", "want with ^x", "want with ^alone", "want with ^(0)", "want alone ^0",
            "want stove ^< 5", "want alone ^> 5", "want (x^) < 5", "want x < ^(5)", "want 5 < ^not x", "want x^", "want x ^and y", "want x ^; want alone",
            "want x <^", "want x < ^; want alone", "want x < ^> 5", "want x < 5 ^< 6", "want x < 5 ^> 6", "want x ^= 5", "want x <^= 5", "want ^< 5",
            "want x < 5 ^x", "want not ^and alone", "want alone ^alone", "want alone ^(alone)");
    }

    private static void sums() {
        holds("1 + 2 < 4", true);
        holds("1 + 2 < 3", false);
        holds("3 < 1 + 2", false);
        holds("3 < 1 + 3", true);
        holds("1+1+1+1+1+1+1+1+1+1 > 9", true);
        holds("1+1+1+1+1+1+1+1+1+1 > 10", false);
        holds("x + y + far + heads + snow + room > 18", true);
        holds("x + y + far + heads + snow + room > 19", false);
        // far above any one number
        String many = "99999" + "+99999".repeat(29);
        holds(many + " > 99999" + "+99999".repeat(28), true);
        holds(many + " < 99999" + "+99999".repeat(28), false);
        wrong("want ^+ 1 < 2", "want 1 + ^+ 1 < 2", "want 1 + ^< 2", "want 1 < 2 +^", "want 1 < ^+ 2", "want 1 + 2^",
            "want 1 ^- 1 < 2", "want 1 + ^(2) < 4", "want 1 + ^alone < 2", "want 1 + ^stove < 2", "want 1 + ^with 0 < 2", "want 1 ^2 < 3");
    }

    private static void parts() {
        String[] words = {"x", "y", "far", "heads", "snow", "room"};
        int[] are = {9, 9, 0, 1, 0, 0};
        for (int i = 0; i < words.length; i++) {
            equal(guest(), 0, words[i], are[i]);
        }
        for (String number : new String[] {"0", "00000", "7", "12", "123", "1234", "99999", "00009"}) {
            equal(guest(), 0, number, Integer.parseInt(number));
        }
        wrong("want ^000000 < 1", "want ^100000 > 1", "want 1 < ^100000", "want 1 + ^123456 > 1", "want ^-1 < 1", "want ^z < 1", "want ^beds < 1",
            "want ^fars < 1", "want ^w < 1", "want ^guest < 1", "want x < ^head", "want x < ^with", "want x < ^stove", "want x < ^want");
    }

    private static void withWhom() {
        PinInn inn = Inn.of("room 0 0 4;room 0 0 4;guest 1 in 0;guest 1 in 0;guest 1 in 1");
        boolean[] beside = {true, true, false, false, false};
        for (int g = 0; g < 5; g++) {
            holds(inn, 0, "with " + g, beside[g]);
            holds(inn, 0, "with 0000" + g, beside[g]);
        }
        holds(inn, 2, "with 2", true);
        holds(inn, 2, "with 4", false);
        Inn.house(inn, "guest 1 in 0;guest 1 in 1");
        due("he is there now", inn.met(2), 1);
        for (int g = 0; g < 5; g++) {
            wrongWishes(Inn.of("room 0 0 4;" + lines("guest 1 in 0", g + 1)), g, "want with ^5");
        }
        wrong("want with ^00005", "want with ^99999", "want with ^-1", "want with ^000001");
    }

    private static void places() {
        PinInn inn = Inn.of(CORNERS);
        equal(inn, 0, "x", 0);
        equal(inn, 0, "y", 18);
        equal(inn, 2, "x", 18);
        equal(inn, 2, "y", 0);
        inn.go(1, 3);
        equal(inn, 1, "x", 9);
        equal(inn, 1, "y", 9);
        equal(inn, 0, "far", 18);
        equal(inn, 1, "far", 0);
    }

    private static void heads() {
        PinInn inn = Inn.of("room 0 0 1;room 0 0 1;guest 1 in 1;guest 1 in 0;guest 1 in 0;guest 1 in 0;guest 1 in 0");
        equal(inn, 0, "heads", 1);
        equal(inn, 4, "heads", 4);
        inn.go(0, 0);
        equal(inn, 0, "heads", 5);
    }

    private static void snow() {
        PinInn inn = Inn.of(CORNERS);
        equal(inn, 0, "snow", 999);
        equal(inn, 2, "snow", 0);
        inn.melt(998);
        equal(inn, 1, "snow", 1);
    }

    private static void roomNumber() {
        PinInn inn = Inn.of(CORNERS);
        equal(inn, 0, "room", 7);
        equal(inn, 2, "room", 0);
    }

    private static void stove() {
        PinInn inn = Inn.of(CORNERS);
        holds(inn, 0, "stove", true);
        holds(inn, 1, "stove", true);
        holds(inn, 2, "stove", false);
        Inn.house(inn, "stove 0 in 0");
        holds(inn, 0, "stove", false);
        holds(inn, 2, "stove", true);
        holds(guest(), 0, "stove", true);
    }

    private static void alone() {
        PinInn inn = Inn.of(CORNERS);
        holds(inn, 0, "alone", false);
        holds(inn, 2, "alone", true);
        inn.go(1, 0);
        holds(inn, 0, "alone", true);
        holds(inn, 2, "alone", false);
        holds(inn, 1, "not alone", true);
    }

    private static void howManyHold() {
        PinInn inn = guest();
        due("no WISH", inn.met(0), 0);
        for (int n = 0; n <= 8; n++) {
            StringBuilder text = new StringBuilder();
            for (int i = 0; i < 8; i++) {
                text.append(i == 0 ? "" : ";").append(i < n ? "want alone" : "want with 4");
            }
            Inn.wishes(inn, 0, text.toString());
            due(n + " of 8", inn.met(0), n);
        }
    }

    private static void byAll() {
        PinInn inn = Inn.of("room 0 0 4;guest 1 in 0;guest 1 in 0;guest 1 in 0");
        due("nobody wishes", inn.met(NONE), 0);
        Inn.wishes(inn, 0, "want stove;want alone");
        Inn.wishes(inn, 2, "want stove;want with 1;want with 4");
        due("GUEST 0", inn.met(0), 1);
        due("GUEST 1", inn.met(1), 0);
        due("GUEST 2", inn.met(2), 2);
        due("all", inn.met(NONE), 3);
        for (int guest : new int[] {3, 4, 5, -2, LEAST_INT, MOST_INT}) {
            dueThrow("met(" + guest + ")", INDEX, () -> inn.met(guest));
        }
        due("nobody there", new PinInn().met(NONE), 0);
        dueThrow("met(0)", INDEX, () -> new PinInn().met(0));
    }

    /** All ways to go deep by ( and not, around what is meant to be MET, or not. */
    private static List<String> deep(int depth) {
        List<String> all = new ArrayList<>();
        for (int way = 0; way < 1 << depth; way++) {
            StringBuilder wish = new StringBuilder();
            StringBuilder behind = new StringBuilder();
            for (int i = 0; i < depth; i++) {
                boolean bracket = (way >> i & 1) == 1;
                wish.append(bracket ? "( " : "not ");
                behind.append(bracket ? ")" : "");
            }
            all.add(wish + "alone" + behind);
        }
        return all;
    }

    private static void sixDeep() {
        PinInn inn = guest();
        for (String wish : deep(6)) {
            int nots = (wish.length() - wish.replace("not ", "").length()) / 4;
            PinInn each = guest();
            holds(each, 0, wish, nots % 2 == 0);
        }
        holds(inn, 0, "((((((alone)))))) and not not not not not not alone and ((((((alone))))))", true);
        holds(inn, 0, "(((((not alone))))) or (((((not with 4)))))", true);
        holds(inn, 0, "(not (not (not alone))) and not (not (not (with 4)))", false);
        holds(inn, 0, "((((((with 4 or alone)))))) and ((((((x < 10 and y > 8))))))", true);
        String open = "alone and with 4 or alone and (";
        holds(inn, 0, open.repeat(6) + "with 4 or alone and 1 < 1 + 1" + ")".repeat(6), true);
        holds(inn, 0, open.repeat(6) + "with 4 or alone and 2 < 1 + 1" + ")".repeat(6), false);
        StringBuilder aside = new StringBuilder("(alone)");
        for (int i = 0; i < 20; i++) {
            aside.append(i % 2 == 0 ? " and not with 4" : " and (alone)");
        }
        holds(inn, 0, aside.toString(), true);
        due("each WISH is as deep as it is alone", Inn.wishes(inn, 0, lines("want ((((((alone))))))", 8)), 8);
    }

    private static void seventh() {
        for (String wish : deep(7)) {
            int at = 0;
            for (int i = 0; i < 6; i++) {
                at = wish.indexOf(' ', at) + 1;
            }
            wrong("want " + wish.substring(0, at) + "^" + wish.substring(at));
        }
        wrong("want ((((((^(alone)))))))", "want alone and ((((((^not alone))))))", "want ((((((alone)))))) or ((((((^(alone)))))))",
            "want ((((((alone or ^(alone)))))))", "want ((((((^(", "want not not not not not not ^not");
        wrong("want alone;want ((((((^(alone)))))))");
    }
}
