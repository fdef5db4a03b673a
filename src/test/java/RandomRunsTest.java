import java.nio.charset.StandardCharsets;
import java.util.Random;

/** Runs of calls drawn from fixed seeds, answered by PinInn and by Naive alike. */
public final class RandomRunsTest {
    private static final int CALLS = 34;

    private final Random dice;
    private final PinInn inn = new PinInn();
    private final Naive naive = new Naive();
    private final StringBuilder told = new StringBuilder();
    private final int mostRooms;
    private final int mostGuests;

    private RandomRunsTest(long seed) {
        dice = new Random(seed);
        mostRooms = dice.nextInt(10) == 0 ? 1 + dice.nextInt(2) : 3 + dice.nextInt(6);
        mostGuests = dice.nextInt(12) == 0 ? dice.nextInt(2) : 2 + dice.nextInt(4);
    }

    public static void main(String[] args) {
        int runs = args.length > 0 ? Integer.parseInt(args[0]) : 400;
        int first = args.length > 1 ? Integer.parseInt(args[1]) : 1;
        long asked = 0;
        for (int seed = first; seed < first + runs; seed++) {
            RandomRunsTest run = new RandomRunsTest(seed);
            int calls = run.go();
            if (calls < 0) {
                System.out.println("seed " + seed + ": " + run.told);
                System.exit(1);
            }
            asked += calls;
        }
        System.out.println("RandomRunsTest: " + runs + " runs, " + asked + " answers alike");
    }

    /** How many calls were answered alike; -1 if one was not. */
    private int go() {
        if (!tellHouse()) {
            return -1;
        }
        int calls = 60 + dice.nextInt(100);
        for (int i = 0; i < calls; i++) {
            if (!anyCall()) {
                return -1;
            }
        }
        return calls;
    }

    private int up(int n) {
        return dice.nextInt(n);
    }

    /** Mostly a number that is there, now and then one that is not. */
    private int near(int many) {
        int n = dice.nextInt(30);
        return n == 0 ? -1 : n == 1 ? many : n == 2 ? many + dice.nextInt(4) : up(Math.max(1, many));
    }

    private int rooms() {
        return naive.now.rooms.size();
    }

    private int guests() {
        return naive.now.guests.size();
    }

    private int trunks() {
        return naive.now.trunks.size();
    }

    // ---- texts ----

    private String blanks() {
        int n = dice.nextInt(12);
        return n < 9 ? " " : n == 9 ? "  " : n == 10 ? "" : "   ";
    }

    private String number(int most) {
        int n = dice.nextInt(40);
        if (n == 0) {
            return String.valueOf(most + 1);
        }
        if (n == 1) {
            return "00" + up(most + 1);
        }
        if (n == 2) {
            return "0000" + up(most + 1);
        }
        return String.valueOf(n == 3 ? most : up(most + 1));
    }

    private String line() {
        String b = blanks();
        String c = blanks();
        int last = Math.max(0, rooms() - 1);
        switch (dice.nextInt(12)) {
            case 0:
            case 1:
                return "room" + b + number(2) + " " + number(2) + " " + (1 + up(4));
            case 2:
            case 3:
                return "guest" + b + (up(2) == 0 ? 10 + 10 * up(6) : 1 + up(200)) + c + "in" + b + number(last);
            case 4:
            case 5:
                int least = up(60);
                return "trunk" + b + least + c + "to" + b + (least + up(40) - (up(20) == 0 ? 50 : 0)) + c + "in " + number(last);
            case 6:
                return "stove" + b + number(60) + "in" + c + number(last);
            case 7:
                return "snow" + b + number(last) + " " + number(40);
            case 8:
                return "bound" + b + number(400);
            case 9:
                return "slide" + b + number(300);
            case 10:
                return "west" + b + number(last);
            default:
                return "south" + b + number(last);
        }
    }

    private String join(int lines, java.util.function.Supplier<String> each) {
        StringBuilder text = new StringBuilder();
        if (lines == 0) {
            return up(2) == 0 ? "" : "   ";
        }
        for (int i = 0; i < lines; i++) {
            text.append(i == 0 ? "" : up(4) == 0 ? " ; " : ";").append(each.get());
        }
        return text.toString();
    }

    private String part() {
        String[] words = {"x", "y", "far", "heads", "snow", "room"};
        return up(3) == 0 ? number(up(3) == 0 ? 99999 : 20) : words[up(6)];
    }

    private String sum() {
        StringBuilder text = new StringBuilder(part());
        for (int i = up(3); i > 1; i--) {
            text.append(up(2) == 0 ? "+" : " + ").append(part());
        }
        return text.toString();
    }

    private String atom(int depth) {
        int n = up(depth > 7 ? 6 : 10);
        if (n == 0) {
            return "alone";
        }
        if (n == 1) {
            return "with " + number(4);
        }
        if (n == 2) {
            return "stove";
        }
        if (n < 6) {
            return sum() + blanks() + (up(2) == 0 ? "<" : ">") + blanks() + sum();
        }
        if (n < 8) {
            return "not " + atom(depth + 1);
        }
        return "(" + any(depth + 1) + ")";
    }

    private String any(int depth) {
        StringBuilder text = new StringBuilder(atom(depth));
        for (int i = up(3); i > 0; i--) {
            text.append(up(2) == 0 ? " and " : " or ").append(atom(depth + 1));
        }
        return text.toString();
    }

    private String spoil(String text) {
        String odd = ";;()<>+ 0123456789abcxyz-\u00e9\u0000A";
        StringBuilder b = new StringBuilder(text);
        for (int i = up(3); i >= 0 && b.length() > 0; i--) {
            int at = up(b.length());
            if (up(2) == 0) {
                b.deleteCharAt(at);
            } else {
                b.insert(at, odd.charAt(up(odd.length())));
            }
        }
        return b.toString();
    }

    private void feed(String text) {
        String t = naive.now.texts > 2 && up(6) == 0 ? spoil(text) : text;
        byte[] bytes = t.substring(0, Math.min(400, t.length())).getBytes(StandardCharsets.ISO_8859_1);
        told.append("\n  text \"").append(t).append('"');
        Inn.feed(inn, bytes);
        naive.tape = bytes;
    }

    /** A house that has something in it, told right. */
    private boolean tellHouse() {
        StringBuilder text = new StringBuilder();
        int lines = 0;
        for (int r = 0; r < mostRooms; r++) {
            text.append("room ").append(up(3)).append(' ').append(up(3)).append(' ').append(1 + up(4)).append(';');
        }
        for (int g = 0; g < mostGuests; g++) {
            text.append("guest ").append(up(8) > 0 ? 10 * (1 + up(6)) : 1 + up(200)).append(" in ").append(up(mostRooms)).append(';');
        }
        text.append("bound ").append(up(5) == 0 ? up(1200) : 20 + 10 * up(20));
        if (!house(text.toString())) {
            return false;
        }
        text.setLength(0);
        for (int r = 0; r < mostRooms; r++) {
            text.append(up(2) == 0 ? "west " + r + ";" : "");
            if (++lines < 8) {
                text.append(up(2) == 0 ? "south " + up(mostRooms) + ";" : "");
            }
        }
        if (!house(text.append("slide ").append(up(400)).toString())) {
            return false;
        }
        text.setLength(0);
        for (int t = up(4); t > 0; t--) {
            int least = up(30);
            text.append("trunk ").append(least).append(" to ").append(least + up(30)).append(" in ").append(up(mostRooms)).append(';');
        }
        return house(text.append("stove ").append(up(30)).append(" in ").append(up(mostRooms)).toString());
    }

    private boolean house(String text) {
        feed(text);
        return same("house()", () -> inn.house(), () -> naive.house())
            && same("fault()", () -> inn.fault(), () -> naive.fault);
    }

    private boolean tellText() {
        int kind = up(3);
        if (kind == 0 && (naive.now.texts < 9 || up(3) == 0)) {
            return house(join(up(20) == 0 ? 14 + up(3) : up(5), this::line));
        }
        if (kind == 1) {
            int guest = near(guests());
            feed(join(up(20) == 0 ? 7 + up(3) : up(4), () -> "want " + any(0)));
            return same("wishes(" + guest + ")", () -> inn.wishes(guest), () -> naive.wishes(guest))
                && same("fault()", () -> inn.fault(), () -> naive.fault);
        }
        int[] minute = {0};
        feed(join(up(20) == 0 ? 19 + up(3) : up(8), () -> {
            minute[0] += up(60) - (up(20) == 0 ? 20 : 0);
            return "at " + Math.max(0, minute[0]) + " " + number(Math.max(0, guests() - 1)) + " to " + number(Math.max(0, rooms() - 1));
        }));
        return same("book()", () -> inn.book(), () -> naive.book())
            && same("fault()", () -> inn.fault(), () -> naive.fault);
    }

    // ---- calls ----

    private boolean same(String call, Inn.Call got, Inn.Call want) {
        String a = answer(got);
        String b = answer(want);
        told.append("\n  ").append(call).append(" = ").append(a);
        if (!a.equals(b)) {
            told.append(", due is ").append(b);
        }
        return a.equals(b);
    }

    private static String answer(Inn.Call call) {
        try {
            return String.valueOf(call.answer());
        } catch (RuntimeException e) {
            return e.getClass().getSimpleName();
        }
    }

    private static long one(boolean b) {
        return b ? 1 : 0;
    }

    private int someSeating() {
        int n = 0;
        for (int g = 0; g < guests(); g++) {
            n = n * 8 + up(Math.max(1, rooms()));
        }
        int kind = up(12);
        if (kind < 2) {
            return kind == 0 ? n : up(40000) - 5;
        }
        return kind < 6 ? PinInn.NONE : naive.someLevel(dice);
    }

    private boolean anyCall() {
        int n = up(CALLS);
        return n < 12 ? changingCall(n) : askingCall(n);
    }

    private boolean changingCall(int n) {
        int a = near(guests());
        int b = near(rooms());
        int t = near(trunks());
        switch (n) {
            case 0:
            case 1:
            case 2:
            case 3:
                return tellText();
            case 4:
                return same("go(" + a + ", " + b + ")", () -> inn.go(a, b), () -> naive.go(a, b));
            case 5:
                return up(3) > 0 || same("live()", () -> inn.live(), () -> naive.live());
            case 6:
                int x = up(2) == 0 ? naive.now.net(0) : 10 * up(40) - 200;
                int y = up(2) == 0 ? naive.now.net(1) : 10 * up(40) - 200;
                return same("read(" + x + ", " + y + ")", () -> inn.read(x, y), () -> naive.read(x, y));
            case 7:
                int w = t >= 0 && t < trunks() ? naive.now.trunks.get(t)[0] + up(12) - 2 : 0;
                return same("weigh(" + t + ", " + w + ")", () -> {
                    inn.weigh(t, w);
                    return 0;
                }, () -> {
                    naive.weigh(t, w);
                    return 0;
                });
            case 8:
                int night = up(8) == 0 ? up(600) - 20 : 1 + up(9);
                return same("night(" + night + ")", () -> inn.night(night), () -> naive.night(night));
            case 9:
                int melt = up(40) - 1;
                return same("melt(" + melt + ")", () -> inn.melt(melt), () -> naive.melt(melt));
            case 10:
                int seed = dice.nextInt();
                return same("seed(" + seed + ")", () -> inn.seed(seed), () -> naive.seed(seed));
            default:
                if (up(3) == 0) {
                    told.append("\n  image()");
                    inn.image();
                    naive.image();
                    return true;
                }
                return up(2) == 0 || same("back()", () -> one(inn.back()), () -> one(naive.back()));
        }
    }

    private boolean askingCall(int n) {
        int a = near(guests());
        int b = near(rooms());
        int t = near(trunks());
        int w = up(20) == 0 ? up(12) - 3 : up(7);
        boolean yes = up(2) == 0;
        switch (n) {
            case 12:
                return same("room(" + b + ", " + w + ")", () -> inn.room(b, w), () -> naive.room(b, w));
            case 13:
                return same("where(" + a + ")", () -> inn.where(a), () -> naive.where(a));
            case 14:
                return same("trunk(" + t + ", " + w / 2 + ")", () -> inn.trunk(t, w / 2), () -> naive.trunk(t, w / 2));
            case 15:
                return same("moment(" + yes + ", " + w / 2 + ")", () -> inn.moment(yes, w / 2), () -> naive.moment(yes, w / 2));
            case 16:
                return same("level()", () -> one(inn.level()), () -> one(naive.now.level()));
            case 17:
                return same("seating()", () -> inn.seating(), () -> naive.now.number());
            case 18:
                return same("met(" + a + ")", () -> inn.met(a), () -> naive.met(a));
            case 19:
                return same("day(" + w / 2 + ")", () -> inn.day(w / 2), () -> naive.day(w / 2));
            case 20:
            case 21:
                return same("seats(" + w / 2 + ")", () -> inn.seats(w / 2), () -> naive.seats(w / 2));
            case 22:
            case 23:
                int s = someSeating();
                int k = up(2) == 0 ? PinInn.NONE : up(30) == 0 ? -2 : up(5);
                return same("bells(" + s + ", " + k + ")", () -> inn.bells(s, k), () -> naive.bells(s, k));
            case 24:
                return same("stove(" + b + ")", () -> inn.stove(b), () -> naive.stove(b));
            case 25:
                return same("wake(" + yes + ")", () -> inn.wake(yes), () -> naive.wake(yes));
            case 26:
                return same("bucket(" + yes + ")", () -> inn.bucket(yes), () -> naive.bucket(yes));
            case 27:
                int weight = up(8) == 0 ? 990 + up(20) : up(200);
                return same("wing(" + weight + ")", () -> inn.wing(weight), () -> naive.wing(weight));
            case 28:
                return same("unnoticed(" + yes + ")", () -> inn.unnoticed(yes), () -> naive.unnoticed(yes));
            case 29:
                int r = near(naive.now.readings.size());
                return same("fits(" + r + ")", () -> inn.fits(r), () -> naive.fits(r));
            case 30:
                int r2 = near(naive.now.readings.size());
                int c = near(guests());
                return same("meeting(" + r2 + ", " + a + ", " + c + ")", () -> inn.meeting(r2, a, c), () -> naive.meeting(r2, a, c));
            case 31:
                int m = up(9) == 0 ? dice.nextInt() : naive.momentWith(t, up(120) - 10) + up(2) * up(3);
                return same("weighed(" + t + ", " + m + ")", () -> inn.weighed(t, m), () -> naive.weighed(t, m));
            case 32:
                int base = up(10) == 0 ? up(10100) - 50 : up(300);
                int rate = up(10) == 0 ? up(1100) - 50 : up(60);
                return same("rent(" + a + ", " + base + ", " + rate + ")", () -> inn.rent(a, base, rate), () -> naive.rent(a, base, rate));
            default:
                int what = up(14) - 1;
                return same("count(" + what + ")", () -> inn.count(what), () -> naive.count(what));
        }
    }
}
