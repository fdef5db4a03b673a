import java.util.Arrays;
import java.util.NoSuchElementException;

/** An inn on a pin, as ../shared/DOC.md tells it; words in capitals are that document's terms. */
public final class PinInn {
    public static final int NONE = -1;

    private static final int MOST_BYTES = 400;
    private static final int MOST_ROOMS = 8;
    private static final int MOST_GUESTS = 5;
    private static final int MOST_TRUNKS = 6;
    private static final int MOST_TEXTS = 10;
    private static final int MOST_HOUSE_LINES = 14;
    private static final int MOST_WISHES = 8;
    private static final int MOST_BOOK_LINES = 20;
    private static final int MOST_READINGS = 8;
    private static final int MOST_DEPTH = 6;
    private static final int MOST_DIGITS = 5;

    private static final int MOST_PLACE = 9;
    private static final int MOST_BEDS = 4;
    private static final int MOST_SNOW = 999;
    private static final int MOST_GUEST_WEIGHT = 200;
    private static final int MOST_TRUNK_WEIGHT = 300;
    private static final int MOST_STOVE_WEIGHT = 999;
    private static final int MOST_NUMBER = 99999;
    private static final int MOST_BUCKET = 300;
    private static final int MOST_WING = 999;
    private static final int MOST_NIGHT = 500;
    private static final int MOST_BASE = 9999;
    private static final int MOST_RATE = 999;
    private static final int MINUTES = 1000;

    /** All SEATINGS there can be; also all of 4 GUESTS with each ROOM of THE STOVE. */
    private static final int MOST_STATES = 32768;
    /** Stands far above the steps that a way through all SEATINGS takes. */
    private static final int ENOUGH_STEPS = 1000000;
    private static final int TOO_MANY_GUESTS = -3;

    private final Tape tape = new Tape();
    private final House now = new House();
    private final HouseText houseText = new HouseText();
    private final Wishes newWishes = new Wishes();
    private final Book newBook = new Book();
    private final Walk walk = new Walk();
    private final Seats best = new Seats();
    private final Paths paths = new Paths();
    private final Day today = new Day();
    private House kept = null;

    public PinInn() {
    }

    public int feed(int a, int b, int c, int d, int e) {
        if (tape.length + 20 > MOST_BYTES) {
            return NONE;
        }
        tape.append(a);
        tape.append(b);
        tape.append(c);
        tape.append(d);
        tape.append(e);
        return tape.length;
    }

    public boolean end(int n) {
        if (n < 0 || n > tape.length) {
            return false;
        }
        tape.length = n;
        return true;
    }

    public int house() throws IllegalArgumentException, UnsupportedOperationException {
        houseText.countFrom(now);
        boolean right = houseText.readLines(tape, now, MOST_HOUSE_LINES);
        tape.length = 0;
        if (!right) {
            throw new IllegalArgumentException("the text is wrong");
        }
        if (now.texts >= MOST_TEXTS) {
            throw new UnsupportedOperationException("there are 10 texts");
        }
        houseText.tellTo(now);
        now.texts++;
        return now.texts;
    }

    public int wishes(int guest) throws IndexOutOfBoundsException, IllegalArgumentException {
        if (!now.hasGuest(guest)) {
            tape.length = 0;
            throw new IndexOutOfBoundsException("no such guest");
        }
        newWishes.size = 0;
        boolean right = newWishes.readLines(tape, now, MOST_WISHES);
        tape.length = 0;
        if (!right) {
            throw new IllegalArgumentException("the text is wrong");
        }
        now.wishes[guest].copyFrom(newWishes);
        return newWishes.lines;
    }

    public int book() throws IllegalArgumentException {
        boolean right = newBook.readLines(tape, now, MOST_BOOK_LINES);
        tape.length = 0;
        if (!right) {
            throw new IllegalArgumentException("the text is wrong");
        }
        now.book.copyFrom(newBook);
        return newBook.lines;
    }

    public int fault() {
        return tape.wrong;
    }

    public int room(int room, int what) throws IndexOutOfBoundsException, NoSuchElementException {
        if (!now.hasRoom(room)) {
            throw new IndexOutOfBoundsException("no such room");
        }
        switch (what) {
            case 0:
                return now.x[room];
            case 1:
                return now.y[room];
            case 2:
                return now.beds[room];
            case 3:
                return now.snow[room];
            case 4:
                return now.farOf(room);
            case 5:
                return now.headsIn(room, now.sits);
            case 6:
                return now.trunks.lyingIn(room);
            default:
                throw new NoSuchElementException("no such what");
        }
    }

    public int where(int guest) throws IndexOutOfBoundsException {
        if (!now.hasGuest(guest)) {
            throw new IndexOutOfBoundsException("no such guest");
        }
        return now.sits[guest];
    }

    public int trunk(int trunk, int what) throws IndexOutOfBoundsException, NoSuchElementException {
        if (!now.trunks.has(trunk)) {
            throw new IndexOutOfBoundsException("no such trunk");
        }
        switch (what) {
            case 0:
                return now.trunks.least[trunk];
            case 1:
                return now.trunks.most[trunk];
            case 2:
                return now.trunks.lies[trunk];
            default:
                throw new NoSuchElementException("no such what");
        }
    }

    public int go(int guest, int room) throws IndexOutOfBoundsException {
        if (!now.hasGuest(guest) || !now.hasRoom(room)) {
            throw new IndexOutOfBoundsException("no such guest or room");
        }
        int was = now.sits[guest];
        now.sits[guest] = room;
        return was;
    }

    public int moment(boolean y, int what) throws NoSuchElementException {
        int[] place = y ? now.y : now.x;
        switch (what) {
            case 0:
                return now.net(place);
            case 1:
                return now.net(place) + now.trunks.lowest(place);
            case 2:
                return now.net(place) + now.trunks.highest(place);
            default:
                throw new NoSuchElementException("no such what");
        }
    }

    public boolean level() {
        return now.isLevelAt(now.net(now.x), now.net(now.y), now.trunks);
    }

    public int seating() {
        return now.asNumber(now.sits);
    }

    public int met(int guest) throws IndexOutOfBoundsException {
        if (guest == NONE) {
            return now.metByAll(now.sits);
        }
        if (!now.hasGuest(guest)) {
            throw new IndexOutOfBoundsException("no such guest");
        }
        return now.wishes[guest].holding(now, guest, now.sits);
    }

    public int day(int what) throws NoSuchElementException {
        if (what < 0 || what > 3) {
            throw new NoSuchElementException("no such what");
        }
        today.pass(now);
        switch (what) {
            case 0:
                return today.spilled;
            case 1:
                return today.slid;
            case 2:
                return now.asNumber(today.sits);
            default:
                return today.trunks.has(0) ? today.trunks.lies[0] : NONE;
        }
    }

    public int live() {
        today.pass(now);
        System.arraycopy(today.sits, 0, now.sits, 0, MOST_GUESTS);
        now.trunks.copyFrom(today.trunks);
        return today.spilled;
    }

    public int seats(int what) throws NoSuchElementException {
        if (what < 0 || what > 2) {
            throw new NoSuchElementException("no such what");
        }
        best.find(now, walk);
        switch (what) {
            case 0:
                return best.number;
            case 1:
                return best.met;
            default:
                return best.levels;
        }
    }

    public int bells(int seating, int k) throws IllegalArgumentException {
        if (k < NONE || (seating != NONE && !now.isSeating(seating))) {
            throw new IllegalArgumentException("no seating, or no such bell");
        }
        int target = seating;
        if (seating == NONE) {
            best.find(now, walk);
            target = best.number;
        }
        if (target == NONE) {
            return NONE;
        }
        int fewest = paths.bellsTo(target, now, walk);
        if (k == NONE) {
            return fewest;
        }
        return k < fewest ? paths.bellAt(k, now) : NONE;
    }

    public int stove(int room) throws IndexOutOfBoundsException {
        if (!now.hasRoom(room)) {
            throw new IndexOutOfBoundsException("no such room");
        }
        if (now.guests >= MOST_GUESTS) {
            return TOO_MANY_GUESTS;
        }
        return paths.stoveTo(room, now, walk);
    }

    public int wake(boolean seating) {
        int fewest = NONE;
        int first = NONE;
        walk.start(now, now.stoveRoom);
        for (int i = 0; i < MOST_STATES && walk.advance(now); i++) {
            if (walk.isLevelNow()) {
                int woken = now.notAt(walk.sits);
                if (fewest == NONE || woken < fewest) {
                    fewest = woken;
                    first = now.asNumber(walk.sits);
                }
            }
        }
        return seating ? first : fewest;
    }

    public int bucket(boolean room) {
        int netX = now.net(now.x);
        int netY = now.net(now.y);
        if (now.isLevelAt(netX, netY, now.trunks)) {
            return room ? NONE : 0;
        }
        for (int weight = 1; weight <= MOST_BUCKET; weight++) {
            for (int r = 0; r < now.rooms; r++) {
                if (now.isLevelAt(netX + weight * now.x[r], netY + weight * now.y[r], now.trunks)) {
                    return room ? r : weight;
                }
            }
        }
        return NONE;
    }

    public int wing(int weight) throws IllegalArgumentException {
        if (weight < 1 || weight > MOST_WING) {
            throw new IllegalArgumentException("no such weight");
        }
        int x = bestPlace(now.net(now.x), weight);
        int y = bestPlace(now.net(now.y), weight);
        return 19 * (y + MOST_PLACE) + x + MOST_PLACE;
    }

    /** X and Y add to the sum apart from one another, so each is found alone. */
    private static int bestPlace(int net, int weight) {
        int found = -MOST_PLACE;
        for (int place = -MOST_PLACE; place <= MOST_PLACE; place++) {
            if (Math.abs(net + weight * place) < Math.abs(net + weight * found)) {
                found = place;
            }
        }
        return found;
    }

    public int unnoticed(boolean first) {
        int many = 0;
        int firstOne = NONE;
        for (int g = 0; g < now.guests; g++) {
            for (int h = g + 1; h < now.guests; h++) {
                for (int both = 0; both < now.rooms * MOST_ROOMS; both++) {
                    if (isUnnoticed(g, h, both / MOST_ROOMS, both % MOST_ROOMS)) {
                        many++;
                        if (firstOne == NONE) {
                            firstOne = 512 * g + 64 * h + both;
                        }
                    }
                }
            }
        }
        return first ? firstOne : many;
    }

    private boolean isUnnoticed(int g, int h, int r, int s) {
        if (s >= now.rooms || (r == now.sits[g] && s == now.sits[h])) {
            return false;
        }
        return now.gain(g, r, now.x) + now.gain(h, s, now.x) == 0
            && now.gain(g, r, now.y) + now.gain(h, s, now.y) == 0;
    }

    public int read(int x, int y) throws UnsupportedOperationException {
        if (now.readings >= MOST_READINGS) {
            throw new UnsupportedOperationException("there are 8 readings");
        }
        now.readX[now.readings] = x;
        now.readY[now.readings] = y;
        now.readings++;
        return now.readings;
    }

    public int fits(int reading) throws IndexOutOfBoundsException {
        if (!now.hasReading(reading)) {
            throw new IndexOutOfBoundsException("no such reading");
        }
        int fitting = 0;
        walk.start(now, now.stoveRoom);
        for (int i = 0; i < MOST_STATES && walk.advance(now); i++) {
            if (walk.isAt(now.readX[reading], now.readY[reading])) {
                fitting++;
            }
        }
        return fitting;
    }

    public int meeting(int reading, int guest, int other) throws IndexOutOfBoundsException {
        if (!now.hasReading(reading) || !now.hasGuest(guest) || !now.hasGuest(other)) {
            throw new IndexOutOfBoundsException("no such reading or guest");
        }
        int together = 0;
        int apart = 0;
        walk.start(now, now.stoveRoom);
        for (int i = 0; i < MOST_STATES && walk.advance(now); i++) {
            if (walk.isAt(now.readX[reading], now.readY[reading])) {
                if (walk.sits[guest] == walk.sits[other]) {
                    together++;
                } else {
                    apart++;
                }
            }
        }
        if (together == 0) {
            return apart == 0 ? NONE : 0;
        }
        return apart == 0 ? 2 : 1;
    }

    public int weighed(int trunk, int moment) throws IndexOutOfBoundsException {
        if (!now.trunks.has(trunk)) {
            throw new IndexOutOfBoundsException("no such trunk");
        }
        int place = now.x[now.trunks.lies[trunk]];
        if (place == 0) {
            return NONE;
        }
        // a long, for the reading may be any int
        long rest = (long) moment - now.net(now.x) - now.trunks.leastBeside(trunk, now.x);
        if (rest % place != 0) {
            return NONE;
        }
        long weight = rest / place;
        return now.trunks.mayWeigh(trunk, weight) ? (int) weight : NONE;
    }

    public void weigh(int trunk, int weight) throws IndexOutOfBoundsException, IllegalArgumentException {
        if (!now.trunks.has(trunk)) {
            throw new IndexOutOfBoundsException("no such trunk");
        }
        if (!now.trunks.mayWeigh(trunk, weight)) {
            throw new IllegalArgumentException("not from least to most");
        }
        now.trunks.least[trunk] = weight;
        now.trunks.most[trunk] = weight;
    }

    public int night(int n) throws IllegalArgumentException {
        if (n < 1 || n > MOST_NIGHT) {
            throw new IllegalArgumentException("no such night");
        }
        int before = now.snowOfAll();
        for (int r = 0; r < now.rooms; r++) {
            now.seed = 1103515245 * now.seed + 12345;
            int draw = (now.seed >>> 16) & 32767;
            now.snow[r] = Math.min(MOST_SNOW, now.snow[r] + draw % n);
        }
        return now.snowOfAll() - before;
    }

    public int melt(int n) throws IllegalArgumentException {
        if (n < 0) {
            throw new IllegalArgumentException("below 0");
        }
        int before = now.snowOfAll();
        for (int r = 0; r < now.rooms; r++) {
            now.snow[r] -= Math.min(n, now.snow[r]);
        }
        return before - now.snowOfAll();
    }

    public int seed(int n) {
        int was = now.seed;
        now.seed = n;
        return was;
    }

    public int rent(int guest, int base, int rate) throws IndexOutOfBoundsException, IllegalArgumentException {
        if (!now.hasGuest(guest)) {
            throw new IndexOutOfBoundsException("no such guest");
        }
        if (base < 0 || base > MOST_BASE || rate < 0 || rate > MOST_RATE) {
            throw new IllegalArgumentException("no such base or rate");
        }
        return Math.max(0, base - now.farOf(now.sits[guest]) * rate);
    }

    public void image() {
        if (kept == null) {
            kept = new House();
        }
        kept.copyFrom(now);
    }

    public boolean back() {
        if (kept == null) {
            return false;
        }
        now.copyFrom(kept);
        return true;
    }

    public int count(int what) {
        switch (what) {
            case 0:
                return now.rooms;
            case 1:
                return now.guests;
            case 2:
                return now.trunks.number;
            case 3:
                return now.texts;
            case 4:
                return now.book.lines;
            case 5:
                return now.readings;
            case 6:
                return now.stoveRoom;
            case 7:
                return now.stoveWeight;
            case 8:
                return now.bound;
            case 9:
                return now.slide;
            case 10:
                return now.snowOfAll();
            case 11:
                return now.wishesOfAll();
            default:
                return NONE;
        }
    }

    /** The TAPE, and a look at it thing by thing: a word, a number, a sign, or that no more comes. */
    private static final class Tape {
        private static final int NO_MORE = 0;
        private static final int WORD = 1;
        private static final int NUMBER = 2;
        private static final int SIGN = 3;

        final byte[] bytes = new byte[MOST_BYTES];
        int length = 0;
        int kind = NO_MORE;
        int begin = 0;
        int behind = 0;
        /** The latest number that was taken. */
        int taken = 0;
        /** The first wrong byte of the latest text; it stays until the next one is looked at. */
        int wrong = NONE;

        void append(int four) {
            for (int shift = 24; shift >= 0 && length < bytes.length; shift -= 8) {
                bytes[length] = (byte) (four >> shift);
                length++;
            }
        }

        void lookAtFirst() {
            wrong = NONE;
            behind = 0;
            lookAtNext();
        }

        void lookAtNext() {
            begin = behind;
            while (begin < length && bytes[begin] == ' ') {
                begin++;
            }
            behind = begin;
            while (behind < length && bytes[behind] >= 'a' && bytes[behind] <= 'z') {
                behind++;
            }
            if (behind > begin) {
                kind = WORD;
                return;
            }
            while (behind < length && bytes[behind] >= '0' && bytes[behind] <= '9') {
                behind++;
            }
            if (behind > begin) {
                kind = NUMBER;
                return;
            }
            kind = begin < length ? SIGN : NO_MORE;
            behind = Math.min(length, begin + 1);
        }

        boolean hasMore() {
            return kind != NO_MORE;
        }

        boolean isSign(char sign) {
            return kind == SIGN && bytes[begin] == sign;
        }

        boolean isWord(String word) {
            if (kind != WORD || word.length() != behind - begin) {
                return false;
            }
            for (int i = 0; i < word.length(); i++) {
                if (bytes[begin + i] != word.charAt(i)) {
                    return false;
                }
            }
            return true;
        }

        /** What is looked at cannot stand there; at the end that is the text's length. */
        boolean refuse() {
            wrong = begin;
            return false;
        }

        boolean takeSign(char sign) {
            if (!isSign(sign)) {
                return refuse();
            }
            lookAtNext();
            return true;
        }

        boolean takeWord(String word) {
            if (!isWord(word)) {
                return refuse();
            }
            lookAtNext();
            return true;
        }

        boolean takeNumber(int least, int most) {
            if (kind != NUMBER || behind - begin > MOST_DIGITS) {
                return refuse();
            }
            int value = 0;
            for (int i = begin; i < behind; i++) {
                value = 10 * value + bytes[i] - '0';
            }
            if (value < least || value > most) {
                return refuse();
            }
            taken = value;
            lookAtNext();
            return true;
        }
    }

    /** A text of LINES (or WISHES) with ; between them, kept apart until it is known to be right. */
    private abstract static class Text {
        int lines = 0;

        abstract boolean readLine(Tape tape, House house);

        boolean readLines(Tape tape, House house, int mostLines) {
            lines = 0;
            tape.lookAtFirst();
            if (!tape.hasMore()) {
                return true;
            }
            for (int i = 0; i < mostLines; i++) {
                if (!readLine(tape, house)) {
                    return false;
                }
                lines++;
                if (!tape.hasMore()) {
                    return true;
                }
                if (!tape.takeSign(';')) {
                    return false;
                }
            }
            return tape.refuse();
        }
    }

    /** A text of THE HOUSE: each LINE as a row of its kind and its numbers. */
    private static final class HouseText extends Text {
        private static final int ROW = 4;
        private static final int ROOM = 0;
        private static final int GUEST = 1;
        private static final int TRUNK = 2;
        private static final int STOVE = 3;
        private static final int SNOW = 4;
        private static final int BOUND = 5;
        private static final int SLIDE = 6;
        private static final int WEST = 7;
        private static final int SOUTH = 8;

        final int[] rows = new int[MOST_HOUSE_LINES * ROW];
        int rooms = 0;
        int guests = 0;
        int trunks = 0;

        void countFrom(House house) {
            rooms = house.rooms;
            guests = house.guests;
            trunks = house.trunks.number;
        }

        boolean readLine(Tape tape, House house) {
            if (tape.isWord("room")) {
                return readRoom(tape);
            }
            if (tape.isWord("guest")) {
                return readGuest(tape);
            }
            if (tape.isWord("trunk")) {
                return readTrunk(tape);
            }
            if (tape.isWord("stove")) {
                begin(STOVE, tape);
                return keep(1, 0, MOST_STOVE_WEIGHT, tape) && tape.takeWord("in") && keep(2, 0, rooms - 1, tape);
            }
            if (tape.isWord("snow")) {
                begin(SNOW, tape);
                return keep(1, 0, rooms - 1, tape) && keep(2, 0, MOST_SNOW, tape);
            }
            if (tape.isWord("bound")) {
                begin(BOUND, tape);
                return keep(1, 0, MOST_NUMBER, tape);
            }
            if (tape.isWord("slide")) {
                begin(SLIDE, tape);
                return keep(1, 0, MOST_NUMBER, tape);
            }
            if (tape.isWord("west")) {
                begin(WEST, tape);
                return keep(1, 0, rooms - 1, tape);
            }
            if (tape.isWord("south")) {
                begin(SOUTH, tape);
                return keep(1, 0, rooms - 1, tape);
            }
            return tape.refuse();
        }

        private boolean readRoom(Tape tape) {
            if (rooms >= MOST_ROOMS) {
                return tape.refuse();
            }
            begin(ROOM, tape);
            rooms++;
            return keep(1, 0, MOST_PLACE, tape) && keep(2, 0, MOST_PLACE, tape) && keep(3, 1, MOST_BEDS, tape);
        }

        private boolean readGuest(Tape tape) {
            if (guests >= MOST_GUESTS) {
                return tape.refuse();
            }
            begin(GUEST, tape);
            guests++;
            return keep(1, 1, MOST_GUEST_WEIGHT, tape) && tape.takeWord("in") && keep(2, 0, rooms - 1, tape);
        }

        private boolean readTrunk(Tape tape) {
            if (trunks >= MOST_TRUNKS) {
                return tape.refuse();
            }
            begin(TRUNK, tape);
            trunks++;
            return keep(1, 0, MOST_TRUNK_WEIGHT, tape) && tape.takeWord("to")
                && keep(2, tape.taken, MOST_TRUNK_WEIGHT, tape) && tape.takeWord("in") && keep(3, 0, rooms - 1, tape);
        }

        private void begin(int kind, Tape tape) {
            put(0, kind);
            tape.lookAtNext();
        }

        private boolean keep(int at, int least, int most, Tape tape) {
            if (!tape.takeNumber(least, most)) {
                return false;
            }
            put(at, tape.taken);
            return true;
        }

        private void put(int at, int value) {
            int index = lines * ROW + at;
            if (index < rows.length) {
                rows[index] = value;
            }
        }

        void tellTo(House house) {
            for (int i = 0; i < lines && i < MOST_HOUSE_LINES; i++) {
                int at = i * ROW;
                tellLine(house, rows[at], rows[at + 1], rows[at + 2], rows[at + 3]);
            }
        }

        private static void tellLine(House house, int kind, int a, int b, int c) {
            switch (kind) {
                case ROOM:
                    house.addRoom(a, b, c);
                    break;
                case GUEST:
                    house.addGuest(a, b);
                    break;
                case TRUNK:
                    house.trunks.add(a, b, c);
                    break;
                case STOVE:
                    house.stoveWeight = a;
                    house.stoveRoom = b;
                    break;
                case SNOW:
                    house.snow[a] = b;
                    break;
                case BOUND:
                    house.bound = a;
                    break;
                case SLIDE:
                    house.slide = a;
                    break;
                case WEST:
                    house.x[a] = -house.x[a];
                    break;
                case SOUTH:
                    house.y[a] = -house.y[a];
                    break;
                default:
                    break;
            }
        }
    }

    /** WISHES of a GUEST, as a code for a stack: what is joined stands ahead of what joins it. */
    private static final class Wishes extends Text {
        // numbers stand for themselves, so what is no number is below 0
        private static final int ADD = -1;
        private static final int LESS = -2;
        private static final int MORE = -3;
        private static final int AND = -4;
        private static final int OR = -5;
        private static final int NOT = -6;
        private static final int WANT = -7;
        private static final int ALONE = -8;
        private static final int STOVE = -9;
        private static final int X = -10;
        private static final int Y = -11;
        private static final int FAR = -12;
        private static final int HEADS = -13;
        private static final int SNOW = -14;
        private static final int ROOM = -15;
        /** With GUEST G: this less G. */
        private static final int WITH = -16;

        // each thing of a text puts at most one code
        final int[] codes = new int[MOST_BYTES];
        // a depth holds at most an or, an and and a sum's parts
        final int[] stack = new int[4 * MOST_DEPTH + 8];
        int size = 0;

        void copyFrom(Wishes from) {
            lines = from.lines;
            size = from.size;
            System.arraycopy(from.codes, 0, codes, 0, MOST_BYTES);
        }

        boolean readLine(Tape tape, House house) {
            return tape.takeWord("want") && readAny(tape, 0) && put(WANT);
        }

        private boolean put(int code) {
            if (size < codes.length) {
                codes[size] = code;
                size++;
            }
            return true;
        }

        private boolean readAny(Tape tape, int depth) {
            if (!readEach(tape, depth)) {
                return false;
            }
            for (int i = 0; i < MOST_BYTES && tape.isWord("or"); i++) {
                tape.lookAtNext();
                if (!readEach(tape, depth)) {
                    return false;
                }
                put(OR);
            }
            return true;
        }

        private boolean readEach(Tape tape, int depth) {
            if (!readAtom(tape, depth)) {
                return false;
            }
            for (int i = 0; i < MOST_BYTES && tape.isWord("and"); i++) {
                tape.lookAtNext();
                if (!readAtom(tape, depth)) {
                    return false;
                }
                put(AND);
            }
            return true;
        }

        private boolean readAtom(Tape tape, int depth) {
            if (tape.isWord("not") || tape.isSign('(')) {
                return depth < MOST_DEPTH ? readDeeper(tape, depth + 1) : tape.refuse();
            }
            if (tape.isWord("alone")) {
                tape.lookAtNext();
                return put(ALONE);
            }
            if (tape.isWord("stove")) {
                tape.lookAtNext();
                return put(STOVE);
            }
            if (tape.isWord("with")) {
                tape.lookAtNext();
                return tape.takeNumber(0, MOST_GUESTS - 1) && put(WITH - tape.taken);
            }
            return readComparison(tape);
        }

        private boolean readDeeper(Tape tape, int depth) {
            boolean negated = tape.isWord("not");
            tape.lookAtNext();
            if (negated) {
                return readAtom(tape, depth) && put(NOT);
            }
            return readAny(tape, depth) && tape.takeSign(')');
        }

        private boolean readComparison(Tape tape) {
            if (!readSum(tape)) {
                return false;
            }
            boolean less = tape.isSign('<');
            if (!less && !tape.isSign('>')) {
                return tape.refuse();
            }
            tape.lookAtNext();
            return readSum(tape) && put(less ? LESS : MORE);
        }

        private boolean readSum(Tape tape) {
            for (int parts = 0; parts < MOST_BYTES; parts++) {
                int code = partNamed(tape);
                if (code != NONE) {
                    tape.lookAtNext();
                } else if (tape.takeNumber(0, MOST_NUMBER)) {
                    code = tape.taken;
                } else {
                    return false;
                }
                put(code);
                if (parts > 0) {
                    put(ADD);
                }
                if (!tape.isSign('+')) {
                    return true;
                }
                tape.lookAtNext();
            }
            return tape.refuse();
        }

        private static int partNamed(Tape tape) {
            if (tape.isWord("x")) {
                return X;
            }
            if (tape.isWord("y")) {
                return Y;
            }
            if (tape.isWord("far")) {
                return FAR;
            }
            if (tape.isWord("heads")) {
                return HEADS;
            }
            if (tape.isWord("snow")) {
                return SNOW;
            }
            return tape.isWord("room") ? ROOM : NONE;
        }

        /** How many hold for the GUEST, all sitting as told. */
        int holding(House house, int guest, int[] sits) {
            int held = 0;
            int top = 0;
            for (int i = 0; i < size; i++) {
                int code = codes[i];
                if (code >= 0 || code <= ALONE) {
                    if (top < stack.length) {
                        stack[top] = valueOf(code, house, guest, sits);
                        top++;
                    }
                } else if (code == WANT) {
                    held += top > 0 ? stack[0] : 0;
                    top = 0;
                } else if (code == NOT) {
                    if (top > 0) {
                        stack[top - 1] = 1 - stack[top - 1];
                    }
                } else if (top > 1) {
                    top--;
                    stack[top - 1] = join(code, stack[top - 1], stack[top]);
                }
            }
            return held;
        }

        private static int join(int code, int a, int b) {
            switch (code) {
                case ADD:
                    return a + b;
                case LESS:
                    return a < b ? 1 : 0;
                case MORE:
                    return a > b ? 1 : 0;
                case AND:
                    return a & b;
                default:
                    return a | b;
            }
        }

        private static int valueOf(int code, House house, int guest, int[] sits) {
            if (code >= 0) {
                return code;
            }
            int room = sits[guest];
            switch (code) {
                case ALONE:
                    return house.headsIn(room, sits) == 1 ? 1 : 0;
                case STOVE:
                    return house.stoveRoom == room ? 1 : 0;
                case X:
                    return house.x[room] + MOST_PLACE;
                case Y:
                    return house.y[room] + MOST_PLACE;
                case FAR:
                    return house.farOf(room);
                case HEADS:
                    return house.headsIn(room, sits);
                case SNOW:
                    return house.snow[room];
                case ROOM:
                    return room;
                default:
                    int other = WITH - code;
                    return house.hasGuest(other) && sits[other] == room ? 1 : 0;
            }
        }
    }

    /** THE BOOK. */
    private static final class Book extends Text {
        final int[] minutes = new int[MOST_BOOK_LINES];
        final int[] walkers = new int[MOST_BOOK_LINES];
        final int[] goals = new int[MOST_BOOK_LINES];

        void copyFrom(Book from) {
            lines = from.lines;
            System.arraycopy(from.minutes, 0, minutes, 0, MOST_BOOK_LINES);
            System.arraycopy(from.walkers, 0, walkers, 0, MOST_BOOK_LINES);
            System.arraycopy(from.goals, 0, goals, 0, MOST_BOOK_LINES);
        }

        boolean readLine(Tape tape, House house) {
            int line = lines;
            if (line < 0 || line >= MOST_BOOK_LINES) {
                return tape.refuse();
            }
            int earliest = line == 0 ? 0 : minutes[line - 1];
            if (!tape.takeWord("at") || !tape.takeNumber(earliest, MINUTES - 1)) {
                return false;
            }
            minutes[line] = tape.taken;
            if (!tape.takeNumber(0, house.guests - 1)) {
                return false;
            }
            walkers[line] = tape.taken;
            if (!tape.takeWord("to") || !tape.takeNumber(0, house.rooms - 1)) {
                return false;
            }
            goals[line] = tape.taken;
            return true;
        }
    }

    /** All that THE IMAGE keeps. */
    private static final class House {
        int rooms = 0;
        final int[] x = new int[MOST_ROOMS];
        final int[] y = new int[MOST_ROOMS];
        final int[] beds = new int[MOST_ROOMS];
        final int[] snow = new int[MOST_ROOMS];
        int guests = 0;
        final int[] weight = new int[MOST_GUESTS];
        final int[] sits = new int[MOST_GUESTS];
        final Wishes[] wishes = new Wishes[MOST_GUESTS];
        final Trunks trunks = new Trunks();
        int stoveWeight = 0;
        int stoveRoom = 0;
        int bound = 1000;
        int slide = 2000;
        int texts = 0;
        int seed = 1;
        final Book book = new Book();
        int readings = 0;
        final int[] readX = new int[MOST_READINGS];
        final int[] readY = new int[MOST_READINGS];

        House() {
            for (int g = 0; g < MOST_GUESTS; g++) {
                wishes[g] = new Wishes();
            }
        }

        void copyFrom(House from) {
            rooms = from.rooms;
            System.arraycopy(from.x, 0, x, 0, MOST_ROOMS);
            System.arraycopy(from.y, 0, y, 0, MOST_ROOMS);
            System.arraycopy(from.beds, 0, beds, 0, MOST_ROOMS);
            System.arraycopy(from.snow, 0, snow, 0, MOST_ROOMS);
            guests = from.guests;
            System.arraycopy(from.weight, 0, weight, 0, MOST_GUESTS);
            System.arraycopy(from.sits, 0, sits, 0, MOST_GUESTS);
            for (int g = 0; g < MOST_GUESTS; g++) {
                wishes[g].copyFrom(from.wishes[g]);
            }
            trunks.copyFrom(from.trunks);
            stoveWeight = from.stoveWeight;
            stoveRoom = from.stoveRoom;
            bound = from.bound;
            slide = from.slide;
            texts = from.texts;
            seed = from.seed;
            book.copyFrom(from.book);
            readings = from.readings;
            System.arraycopy(from.readX, 0, readX, 0, MOST_READINGS);
            System.arraycopy(from.readY, 0, readY, 0, MOST_READINGS);
        }

        boolean hasRoom(int room) {
            return room >= 0 && room < rooms;
        }

        boolean hasGuest(int guest) {
            return guest >= 0 && guest < guests;
        }

        boolean hasReading(int reading) {
            return reading >= 0 && reading < readings;
        }

        void addRoom(int atX, int atY, int bedsThere) {
            if (rooms < MOST_ROOMS) {
                x[rooms] = atX;
                y[rooms] = atY;
                beds[rooms] = bedsThere;
                snow[rooms] = 0;
                rooms++;
            }
        }

        void addGuest(int heavy, int inRoom) {
            if (guests < MOST_GUESTS) {
                weight[guests] = heavy;
                sits[guests] = inRoom;
                wishes[guests].lines = 0;
                wishes[guests].size = 0;
                guests++;
            }
        }

        int farOf(int room) {
            return Math.abs(x[room]) + Math.abs(y[room]);
        }

        int headsIn(int room, int[] seated) {
            int heads = 0;
            for (int g = 0; g < guests; g++) {
                if (seated[g] == room) {
                    heads++;
                }
            }
            return heads;
        }

        int snowOfAll() {
            int all = 0;
            for (int r = 0; r < rooms; r++) {
                all += snow[r];
            }
            return all;
        }

        int wishesOfAll() {
            int all = 0;
            for (int g = 0; g < guests; g++) {
                all += wishes[g].lines;
            }
            return all;
        }

        int metByAll(int[] seated) {
            int all = 0;
            for (int g = 0; g < guests; g++) {
                all += wishes[g].holding(this, g, seated);
            }
            return all;
        }

        /** Of NET what SNOW does, and THE STOVE, were it in the ROOM. */
        int netOfThings(int[] place, int stoveIn) {
            int net = stoveWeight * place[stoveIn];
            for (int r = 0; r < rooms; r++) {
                net += snow[r] * place[r];
            }
            return net;
        }

        int netOfGuests(int[] place, int[] seated) {
            int net = 0;
            for (int g = 0; g < guests; g++) {
                net += weight[g] * place[seated[g]];
            }
            return net;
        }

        int net(int[] place) {
            return netOfThings(place, stoveRoom) + netOfGuests(place, sits);
        }

        /** What NET gets more if a GUEST changes to a ROOM. */
        int gain(int guest, int room, int[] place) {
            return weight[guest] * (place[room] - place[sits[guest]]);
        }

        boolean isLevelAt(int netX, int netY, Trunks lying) {
            return netX + lying.lowest(x) >= -bound && netX + lying.highest(x) <= bound
                && netY + lying.lowest(y) >= -bound && netY + lying.highest(y) <= bound;
        }

        int asNumber(int[] seated) {
            int number = 0;
            for (int g = 0; g < guests; g++) {
                number += seated[g] << 3 * g;
            }
            return number;
        }

        boolean isSeating(int number) {
            if (number < 0 || number >= 1 << 3 * guests) {
                return false;
            }
            for (int g = 0; g < guests; g++) {
                int room = (number >> 3 * g) & 7;
                if (room >= rooms || headsOf(number, room) > beds[room]) {
                    return false;
                }
            }
            return true;
        }

        private int headsOf(int number, int room) {
            int heads = 0;
            for (int g = 0; g < guests; g++) {
                if (((number >> 3 * g) & 7) == room) {
                    heads++;
                }
            }
            return heads;
        }

        /** How many GUESTS are elsewhere than told. */
        int notAt(int[] seated) {
            int moved = 0;
            for (int g = 0; g < guests; g++) {
                if (seated[g] != sits[g]) {
                    moved++;
                }
            }
            return moved;
        }

        boolean isOneStep(int from, int to) {
            return Math.abs(x[from] - x[to]) + Math.abs(y[from] - y[to]) == 1;
        }
    }

    /** TRUNKS, and where they lie. */
    private static final class Trunks {
        int number = 0;
        final int[] least = new int[MOST_TRUNKS];
        final int[] most = new int[MOST_TRUNKS];
        final int[] lies = new int[MOST_TRUNKS];

        void copyFrom(Trunks from) {
            number = from.number;
            System.arraycopy(from.least, 0, least, 0, MOST_TRUNKS);
            System.arraycopy(from.most, 0, most, 0, MOST_TRUNKS);
            System.arraycopy(from.lies, 0, lies, 0, MOST_TRUNKS);
        }

        void add(int lightest, int heaviest, int inRoom) {
            if (number < MOST_TRUNKS) {
                least[number] = lightest;
                most[number] = heaviest;
                lies[number] = inRoom;
                number++;
            }
        }

        boolean has(int trunk) {
            return trunk >= 0 && trunk < number;
        }

        boolean mayWeigh(int trunk, long weight) {
            return weight >= least[trunk] && weight <= most[trunk];
        }

        int lyingIn(int room) {
            int lying = 0;
            for (int t = 0; t < number; t++) {
                if (lies[t] == room) {
                    lying++;
                }
            }
            return lying;
        }

        /** What they add to LOW: on the far side of the pin the heaviest makes it less. */
        int lowest(int[] place) {
            int sum = 0;
            for (int t = 0; t < number; t++) {
                int at = place[lies[t]];
                sum += at * (at < 0 ? most[t] : least[t]);
            }
            return sum;
        }

        int highest(int[] place) {
            int sum = 0;
            for (int t = 0; t < number; t++) {
                int at = place[lies[t]];
                sum += at * (at < 0 ? least[t] : most[t]);
            }
            return sum;
        }

        int leastBeside(int trunk, int[] place) {
            int sum = 0;
            for (int t = 0; t < number; t++) {
                if (t != trunk) {
                    sum += least[t] * place[lies[t]];
                }
            }
            return sum;
        }

        /** All that can slide along (up for 1, down for -1): how many did. */
        int slideAll(int[] along, int[] across, int direction, int rooms) {
            int slid = 0;
            for (int t = 0; t < number; t++) {
                int to = nextRoom(lies[t], along, across, direction, rooms);
                if (to != NONE) {
                    lies[t] = to;
                    slid++;
                }
            }
            return slid;
        }

        private static int nextRoom(int from, int[] along, int[] across, int direction, int rooms) {
            int next = NONE;
            for (int r = 0; r < rooms; r++) {
                boolean ahead = across[r] == across[from] && direction * (along[r] - along[from]) > 0;
                if (ahead && (next == NONE || direction * (along[next] - along[r]) > 0)) {
                    next = r;
                }
            }
            return next;
        }
    }

    /** A DAY, tried on copies so that nothing stays. */
    private static final class Day {
        final int[] sits = new int[MOST_GUESTS];
        final Trunks trunks = new Trunks();
        int spilled = NONE;
        int slid = 0;

        void pass(House house) {
            System.arraycopy(house.sits, 0, sits, 0, MOST_GUESTS);
            trunks.copyFrom(house.trunks);
            spilled = NONE;
            slid = 0;
            int line = 0;
            boolean moving = true;
            for (int minute = 0; minute < MINUTES; minute++) {
                int first = line;
                line = walkAll(house.book, line, minute);
                // with no walk, and no slide the MINUTE before, all is as it was then
                if (moving || line > first) {
                    moving = endMinute(house, minute);
                }
            }
        }

        /** GUESTS walk as told for the MINUTE: the first LINE behind those. */
        private int walkAll(Book book, int first, int minute) {
            int line = first;
            while (line < book.lines && line < MOST_BOOK_LINES && book.minutes[line] == minute) {
                sits[book.walkers[line]] = book.goals[line];
                line++;
            }
            return line;
        }

        /** Slides TRUNKS and looks at the soup: whether any slid. */
        private boolean endMinute(House house, int minute) {
            int netX = house.netOfThings(house.x, house.stoveRoom) + house.netOfGuests(house.x, sits);
            int netY = house.netOfThings(house.y, house.stoveRoom) + house.netOfGuests(house.y, sits);
            int more = trunks.slideAll(house.x, house.y, direction(netX, house.slide), house.rooms);
            more += trunks.slideAll(house.y, house.x, direction(netY, house.slide), house.rooms);
            slid += more;
            if (spilled == NONE && !house.isLevelAt(netX, netY, trunks)) {
                spilled = minute;
            }
            return more > 0;
        }

        private static int direction(int net, int slide) {
            if (net > slide) {
                return 1;
            }
            return net < -slide ? -1 : 0;
        }
    }

    /** A way through all SEATINGS in their order: by the ROOM of GUEST 0, then 1, .. */
    private static final class Walk {
        final int[] sits = new int[MOST_GUESTS];
        final int[] heads = new int[MOST_ROOMS];
        boolean fresh = true;
        int netX = 0;
        int netY = 0;
        // what TRUNKS add to LOW and HIGH is the same all the way
        int lowX = 0;
        int highX = 0;
        int lowY = 0;
        int highY = 0;
        int bound = 0;

        void start(House house, int stoveIn) {
            fresh = true;
            for (int g = 0; g < MOST_GUESTS; g++) {
                sits[g] = NONE;
            }
            for (int r = 0; r < MOST_ROOMS; r++) {
                heads[r] = 0;
            }
            netX = house.netOfThings(house.x, stoveIn);
            netY = house.netOfThings(house.y, stoveIn);
            lowX = house.trunks.lowest(house.x);
            highX = house.trunks.highest(house.x);
            lowY = house.trunks.lowest(house.y);
            highY = house.trunks.highest(house.y);
            bound = house.bound;
        }

        /** On to the next SEATING; false behind the last one. */
        boolean advance(House house) {
            int guest = fresh ? 0 : house.guests - 1;
            fresh = false;
            for (int i = 0; i < ENOUGH_STEPS && guest >= 0 && guest < house.guests; i++) {
                guest += seatFurther(guest, house) ? 1 : -1;
            }
            return guest >= house.guests;
        }

        /** To the next ROOM with a free bed; out of all ROOMS, and false, if there is none. */
        private boolean seatFurther(int guest, House house) {
            int from = sits[guest];
            if (from != NONE) {
                heads[from]--;
                netX -= house.weight[guest] * house.x[from];
                netY -= house.weight[guest] * house.y[from];
            }
            for (int r = from + 1; r < house.rooms; r++) {
                if (heads[r] < house.beds[r]) {
                    sits[guest] = r;
                    heads[r]++;
                    netX += house.weight[guest] * house.x[r];
                    netY += house.weight[guest] * house.y[r];
                    return true;
                }
            }
            sits[guest] = NONE;
            return false;
        }

        boolean isLevelNow() {
            return netX + lowX >= -bound && netX + highX <= bound
                && netY + lowY >= -bound && netY + highY <= bound;
        }

        boolean isAt(int x, int y) {
            return netX == x && netY == y;
        }
    }

    /** SEATS. */
    private static final class Seats {
        /** As many companies may be in a ROOM. */
        private static final int COMPANIES = 32;

        // WISHES hang on the ROOM and who is in it alone: MET by GUEST, ROOM and company is found once
        final int[] known = new int[MOST_GUESTS * MOST_ROOMS * COMPANIES];
        int number = NONE;
        int met = NONE;
        int levels = 0;

        void find(House house, Walk walk) {
            number = NONE;
            met = NONE;
            levels = 0;
            Arrays.fill(known, NONE);
            int most = house.wishesOfAll();
            walk.start(house, house.stoveRoom);
            for (int i = 0; i < MOST_STATES && walk.advance(house); i++) {
                if (walk.isLevelNow()) {
                    levels++;
                    // with all WISHES MET no later one can be better
                    if (met < most) {
                        compare(house, walk);
                    }
                }
            }
        }

        private void compare(House house, Walk walk) {
            int here = 0;
            for (int g = 0; g < house.guests; g++) {
                here += metBy(g, house, walk.sits);
            }
            if (here > met) {
                met = here;
                number = house.asNumber(walk.sits);
            }
        }

        private int metBy(int guest, House house, int[] sits) {
            int room = sits[guest];
            int company = 0;
            for (int g = 0; g < house.guests; g++) {
                if (sits[g] == room) {
                    company += 1 << g;
                }
            }
            int at = (guest * MOST_ROOMS + room) * COMPANIES + company;
            if (known[at] == NONE) {
                known[at] = house.wishes[guest].holding(house, guest, sits);
            }
            return known[at];
        }
    }

    /** The fewest bells: a state is a SEATING's number, for THE STOVE with its ROOM as one more figure. */
    private static final class Paths {
        private static final int SHUT = -2;
        private static final int OPEN = -1;

        // made longer when more GUESTS ask for it: most houses need few states
        int[] far = new int[0];
        int[] queue = new int[0];
        int queued = 0;

        /** How many bells to a SEATING; far then tells of each state on the way how many remain. */
        int bellsTo(int target, House house, Walk walk) {
            int from = house.asNumber(house.sits);
            if (from == target) {
                return 0;
            }
            shutAll(house.guests);
            walk.start(house, house.stoveRoom);
            openLevel(0, house, walk);
            if (target < 0 || target >= far.length || from >= far.length || far[target] != OPEN) {
                return NONE;
            }
            // what it is now need not be LEVEL
            far[from] = OPEN;
            reach(target, 0);
            for (int i = 0; i < queued && i < queue.length && far[from] == OPEN; i++) {
                sendGuests(queue[i], house);
            }
            return far[from] == OPEN ? NONE : far[from];
        }

        /** The k-th bell of the first way, when bellsTo has told of more than k. */
        int bellAt(int k, House house) {
            int state = house.asNumber(house.sits);
            int bell = NONE;
            for (int i = 0; i <= k && i < MOST_STATES; i++) {
                bell = firstBell(state, house);
                if (bell == NONE) {
                    return NONE;
                }
                state = sent(state, bell / 8, bell % 8);
            }
            return bell;
        }

        private int firstBell(int state, House house) {
            for (int g = 0; g < house.guests; g++) {
                for (int r = 0; r < house.rooms; r++) {
                    int next = sent(state, g, r);
                    if (far[next] >= 0 && far[next] == far[state] - 1) {
                        return 8 * g + r;
                    }
                }
            }
            return NONE;
        }

        int stoveTo(int room, House house, Walk walk) {
            if (house.stoveRoom == room) {
                return 0;
            }
            int shift = 3 * house.guests;
            shutAll(house.guests + 1);
            for (int r = 0; r < house.rooms; r++) {
                walk.start(house, r);
                openLevel(r << shift, house, walk);
            }
            int from = house.asNumber(house.sits) + (house.stoveRoom << shift);
            if (from >= far.length) {
                return NONE;
            }
            far[from] = OPEN;
            reach(from, 0);
            for (int i = 0; i < queued && i < queue.length; i++) {
                int state = queue[i];
                if (state >> shift == room) {
                    return far[state];
                }
                sendGuests(state, house);
                sendStove(state, shift, house);
            }
            return NONE;
        }

        private void shutAll(int figures) {
            int states = Math.min(MOST_STATES, 1 << 3 * figures);
            if (far.length < states) {
                far = new int[states];
                queue = new int[states];
            }
            for (int i = 0; i < states; i++) {
                far[i] = SHUT;
            }
            queued = 0;
        }

        private void openLevel(int more, House house, Walk walk) {
            for (int i = 0; i < MOST_STATES && walk.advance(house); i++) {
                int state = more + house.asNumber(walk.sits);
                if (walk.isLevelNow() && state < far.length) {
                    far[state] = OPEN;
                }
            }
        }

        private void reach(int state, int bells) {
            if (far[state] == OPEN && queued < queue.length) {
                far[state] = bells;
                queue[queued] = state;
                queued++;
            }
        }

        private static int sent(int state, int guest, int room) {
            int shift = 3 * guest;
            return (state & ~(7 << shift)) | room << shift;
        }

        private void sendGuests(int state, House house) {
            int bells = far[state] + 1;
            for (int g = 0; g < house.guests; g++) {
                int others = sent(state, g, 0);
                int step = 1 << 3 * g;
                for (int r = 0; r < house.rooms; r++) {
                    int next = others + r * step;
                    if (far[next] == OPEN) {
                        reach(next, bells);
                    }
                }
            }
        }

        private void sendStove(int state, int shift, House house) {
            int from = state >> shift;
            int seating = state - (from << shift);
            for (int r = 0; r < house.rooms; r++) {
                if (house.isOneStep(from, r)) {
                    reach(seating + (r << shift), far[state] + 1);
                }
            }
        }
    }
}
