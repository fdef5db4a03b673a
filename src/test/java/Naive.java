import java.util.ArrayDeque;
import java.util.ArrayList;
import java.util.Arrays;
import java.util.HashMap;
import java.util.HashSet;
import java.util.List;
import java.util.Map;
import java.util.NoSuchElementException;
import java.util.Set;

/** The document once more, written as slowly and as plainly as it goes, to be compared with PinInn. */
final class Naive {
    static final int NONE = -1;

    /** Where a text is wrong. */
    static final class WrongAt extends RuntimeException {
        private static final long serialVersionUID = 1L;
        final int at;

        WrongAt(int at) {
            this.at = at;
        }
    }

    record Token(char kind, String text, int begin) {
    }

    interface Truth {
        boolean holds(State s, int guest);
    }

    interface Worth {
        int of(State s, int guest);
    }

    static final class State {
        List<int[]> rooms = new ArrayList<>();   // x, y, beds, snow
        List<int[]> guests = new ArrayList<>();  // weight, room
        List<List<Truth>> wishes = new ArrayList<>();
        List<int[]> trunks = new ArrayList<>();  // least, most, room
        int stoveWeight = 0;
        int stoveRoom = 0;
        int bound = 1000;
        int slide = 2000;
        int texts = 0;
        int seed = 1;
        List<int[]> book = new ArrayList<>();
        List<int[]> readings = new ArrayList<>();

        State copy() {
            State s = new State();
            rooms.forEach(r -> s.rooms.add(r.clone()));
            guests.forEach(r -> s.guests.add(r.clone()));
            wishes.forEach(r -> s.wishes.add(new ArrayList<>(r)));
            trunks.forEach(r -> s.trunks.add(r.clone()));
            book.forEach(r -> s.book.add(r.clone()));
            readings.forEach(r -> s.readings.add(r.clone()));
            s.stoveWeight = stoveWeight;
            s.stoveRoom = stoveRoom;
            s.bound = bound;
            s.slide = slide;
            s.texts = texts;
            s.seed = seed;
            return s;
        }

        int net(int axis) {
            int sum = 0;
            for (int[] g : guests) {
                sum += g[0] * rooms.get(g[1])[axis];
            }
            for (int[] r : rooms) {
                sum += r[3] * r[axis];
            }
            if (!rooms.isEmpty()) {
                sum += stoveWeight * rooms.get(stoveRoom)[axis];
            }
            return sum;
        }

        int low(int axis) {
            int sum = net(axis);
            for (int[] t : trunks) {
                int p = rooms.get(t[2])[axis];
                sum += Math.min(p * t[0], p * t[1]);
            }
            return sum;
        }

        int high(int axis) {
            int sum = net(axis);
            for (int[] t : trunks) {
                int p = rooms.get(t[2])[axis];
                sum += Math.max(p * t[0], p * t[1]);
            }
            return sum;
        }

        boolean level() {
            for (int axis = 0; axis < 2; axis++) {
                for (int m : new int[] {low(axis), high(axis)}) {
                    if (m < -bound || m > bound) {
                        return false;
                    }
                }
            }
            return true;
        }

        int heads(int room) {
            return (int) guests.stream().filter(g -> g[1] == room).count();
        }

        boolean bedsSuffice() {
            for (int r = 0; r < rooms.size(); r++) {
                if (heads(r) > rooms.get(r)[2]) {
                    return false;
                }
            }
            return true;
        }

        int number() {
            int n = 0;
            for (int g = guests.size() - 1; g >= 0; g--) {
                n = n * 8 + guests.get(g)[1];
            }
            return n;
        }

        int met(int guest) {
            return (int) wishes.get(guest).stream().filter(w -> w.holds(this, guest)).count();
        }

        int metAll() {
            int sum = 0;
            for (int g = 0; g < guests.size(); g++) {
                sum += met(g);
            }
            return sum;
        }

        State seated(int... at) {
            State s = new State();
            s.rooms = rooms;
            s.wishes = wishes;
            s.trunks = trunks;
            s.stoveWeight = stoveWeight;
            s.stoveRoom = stoveRoom;
            s.bound = bound;
            for (int g = 0; g < at.length; g++) {
                s.guests.add(new int[] {guests.get(g)[0], at[g]});
            }
            return s;
        }

        int[] sits() {
            return guests.stream().mapToInt(g -> g[1]).toArray();
        }
    }

    State now = new State();
    State image = null;
    int fault = NONE;
    byte[] tape = new byte[0];

    // ---- texts ----

    private List<Token> tokens = null;
    private int at = 0;

    private void tokenize(byte[] text) {
        tokens = new ArrayList<>();
        at = 0;
        int i = 0;
        while (i < text.length) {
            char c = (char) (text[i] & 255);
            int j = i + 1;
            if (c == ' ') {
                i++;
                continue;
            }
            char kind = 's';
            if (c >= 'a' && c <= 'z') {
                kind = 'w';
                while (j < text.length && text[j] >= 'a' && text[j] <= 'z') {
                    j++;
                }
            } else if (c >= '0' && c <= '9') {
                kind = 'n';
                while (j < text.length && text[j] >= '0' && text[j] <= '9') {
                    j++;
                }
            }
            StringBuilder b = new StringBuilder();
            for (int k = i; k < j; k++) {
                b.append((char) (text[k] & 255));
            }
            tokens.add(new Token(kind, b.toString(), i));
            i = j;
        }
        tokens.add(new Token('e', "", text.length));
    }

    private Token peek() {
        return tokens.get(at);
    }

    private WrongAt wrong() {
        return new WrongAt(peek().begin());
    }

    private boolean sees(String text) {
        return peek().text().equals(text);
    }

    private void take(String text) {
        if (!sees(text)) {
            throw wrong();
        }
        at++;
    }

    private int number(int least, int most) {
        Token t = peek();
        if (t.kind() != 'n' || t.text().length() > 5) {
            throw wrong();
        }
        int n = Integer.parseInt(t.text());
        if (n < least || n > most) {
            throw wrong();
        }
        at++;
        return n;
    }

    private byte[] takeTape() {
        byte[] t = tape;
        tape = new byte[0];
        return t;
    }

    private interface LineReader {
        void line();
    }

    private int lines(byte[] text, int most, LineReader reader) {
        tokenize(text);
        if (peek().kind() == 'e') {
            return 0;
        }
        int n = 0;
        while (true) {
            if (n == most) {
                throw wrong();
            }
            reader.line();
            n++;
            if (peek().kind() == 'e') {
                return n;
            }
            take(";");
        }
    }

    int house() {
        byte[] text = takeTape();
        State s = now.copy();
        try {
            lines(text, 14, () -> houseLine(s));
        } catch (WrongAt w) {
            fault = w.at;
            throw new IllegalArgumentException();
        }
        fault = NONE;
        if (now.texts == 10) {
            throw new UnsupportedOperationException();
        }
        now = s;
        return ++now.texts;
    }

    private void houseLine(State s) {
        int last = s.rooms.size() - 1;
        String word = peek().text();
        boolean full = word.equals("room") && last == 7
            || word.equals("guest") && s.guests.size() == 5
            || word.equals("trunk") && s.trunks.size() == 6;
        if (full || !List.of("room", "guest", "trunk", "stove", "snow", "bound", "slide", "west", "south").contains(word)) {
            throw wrong();
        }
        at++;
        int a;
        int b;
        switch (word) {
            case "room" -> {
                a = number(0, 9);
                b = number(0, 9);
                s.rooms.add(new int[] {a, b, number(1, 4), 0});
            }
            case "guest" -> {
                a = number(1, 200);
                take("in");
                s.guests.add(new int[] {a, number(0, last)});
                s.wishes.add(new ArrayList<>());
            }
            case "trunk" -> {
                a = number(0, 300);
                take("to");
                b = number(a, 300);
                take("in");
                s.trunks.add(new int[] {a, b, number(0, last)});
            }
            case "stove" -> {
                s.stoveWeight = number(0, 999);
                take("in");
                s.stoveRoom = number(0, last);
            }
            case "snow" -> {
                a = number(0, last);
                s.rooms.get(a)[3] = number(0, 999);
            }
            case "bound" -> s.bound = number(0, 99999);
            case "slide" -> s.slide = number(0, 99999);
            case "west" -> s.rooms.get(number(0, last))[0] *= -1;
            default -> s.rooms.get(number(0, last))[1] *= -1;
        }
    }

    int wishes(int guest) {
        byte[] text = takeTape();
        guest(guest);
        List<Truth> list = new ArrayList<>();
        try {
            lines(text, 8, () -> {
                take("want");
                list.add(any(0));
            });
        } catch (WrongAt w) {
            fault = w.at;
            throw new IllegalArgumentException();
        }
        fault = NONE;
        now.wishes.set(guest, list);
        return list.size();
    }

    private Truth any(int depth) {
        Truth left = all(depth);
        if (!sees("or")) {
            return left;
        }
        List<Truth> parts = new ArrayList<>(List.of(left));
        while (sees("or")) {
            at++;
            parts.add(all(depth));
        }
        return (s, g) -> parts.stream().anyMatch(p -> p.holds(s, g));
    }

    private Truth all(int depth) {
        List<Truth> parts = new ArrayList<>(List.of(atom(depth)));
        while (sees("and")) {
            at++;
            parts.add(atom(depth));
        }
        return (s, g) -> parts.stream().allMatch(p -> p.holds(s, g));
    }

    private Truth atom(int depth) {
        if ((sees("not") || sees("(")) && depth == 6) {
            throw wrong();
        }
        if (sees("not")) {
            at++;
            Truth t = atom(depth + 1);
            return (s, g) -> !t.holds(s, g);
        }
        if (sees("(")) {
            at++;
            Truth t = any(depth + 1);
            take(")");
            return t;
        }
        if (sees("alone")) {
            at++;
            return (s, g) -> s.heads(s.guests.get(g)[1]) == 1;
        }
        if (sees("stove")) {
            at++;
            return (s, g) -> s.guests.get(g)[1] == s.stoveRoom;
        }
        if (sees("with")) {
            at++;
            int other = number(0, 4);
            return (s, g) -> other < s.guests.size() && s.guests.get(other)[1] == s.guests.get(g)[1];
        }
        Worth a = sum();
        if (sees("<")) {
            at++;
            Worth b = sum();
            return (s, g) -> a.of(s, g) < b.of(s, g);
        }
        take(">");
        Worth b = sum();
        return (s, g) -> a.of(s, g) > b.of(s, g);
    }

    private Worth sum() {
        Worth a = part();
        while (sees("+")) {
            at++;
            Worth left = a;
            Worth b = part();
            a = (s, g) -> left.of(s, g) + b.of(s, g);
        }
        return a;
    }

    private Worth part() {
        if (peek().kind() == 'n') {
            int n = number(0, 99999);
            return (s, g) -> n;
        }
        String word = peek().text();
        if (!List.of("x", "y", "far", "heads", "snow", "room").contains(word)) {
            throw wrong();
        }
        at++;
        return (s, g) -> {
            int room = s.guests.get(g)[1];
            int[] r = s.rooms.get(room);
            return switch (word) {
                case "x" -> r[0] + 9;
                case "y" -> r[1] + 9;
                case "far" -> Math.abs(r[0]) + Math.abs(r[1]);
                case "heads" -> s.heads(room);
                case "snow" -> r[3];
                default -> room;
            };
        };
    }

    int book() {
        byte[] text = takeTape();
        List<int[]> list = new ArrayList<>();
        try {
            lines(text, 20, () -> {
                take("at");
                int m = number(list.isEmpty() ? 0 : list.get(list.size() - 1)[0], 999);
                int g = number(0, now.guests.size() - 1);
                take("to");
                list.add(new int[] {m, g, number(0, now.rooms.size() - 1)});
            });
        } catch (WrongAt w) {
            fault = w.at;
            throw new IllegalArgumentException();
        }
        fault = NONE;
        now.book = list;
        return list.size();
    }

    // ---- what there is ----

    private void guest(int g) {
        index(g, now.guests.size());
    }

    private static void index(int i, int size) {
        if (i < 0 || i >= size) {
            throw new IndexOutOfBoundsException();
        }
    }

    private static void what(int w, int most) {
        if (w < 0 || w > most) {
            throw new NoSuchElementException();
        }
    }

    private static void argument(boolean right) {
        if (!right) {
            throw new IllegalArgumentException();
        }
    }

    int room(int room, int what) {
        index(room, now.rooms.size());
        what(what, 6);
        int[] r = now.rooms.get(room);
        if (what < 4) {
            return r[what];
        }
        if (what == 4) {
            return Math.abs(r[0]) + Math.abs(r[1]);
        }
        return what == 5 ? now.heads(room) : (int) now.trunks.stream().filter(t -> t[2] == room).count();
    }

    int where(int guest) {
        guest(guest);
        return now.guests.get(guest)[1];
    }

    int trunk(int trunk, int what) {
        index(trunk, now.trunks.size());
        what(what, 2);
        return now.trunks.get(trunk)[what];
    }

    int go(int guest, int room) {
        guest(guest);
        index(room, now.rooms.size());
        int was = where(guest);
        now.guests.get(guest)[1] = room;
        return was;
    }

    int moment(boolean y, int what) {
        what(what, 2);
        int axis = y ? 1 : 0;
        return what == 0 ? now.net(axis) : what == 1 ? now.low(axis) : now.high(axis);
    }

    int met(int guest) {
        if (guest == NONE) {
            return now.metAll();
        }
        guest(guest);
        return now.met(guest);
    }

    // ---- a day ----

    /** {SPILLED, SLID, SEATING, ROOM of TRUNK 0}, and its end in place of the state if it is to stay. */
    private int[] pass(boolean stays) {
        State s = now.copy();
        int spilled = NONE;
        int slid = 0;
        for (int minute = 0; minute < 1000; minute++) {
            for (int[] line : s.book) {
                if (line[0] == minute) {
                    s.guests.get(line[1])[1] = line[2];
                }
            }
            int[] nets = {s.net(0), s.net(1)};
            for (int axis = 0; axis < 2; axis++) {
                int dir = nets[axis] > s.slide ? 1 : nets[axis] < -s.slide ? -1 : 0;
                for (int[] t : s.trunks) {
                    int to = dir == 0 ? NONE : neighbour(s, t[2], axis, dir);
                    if (to != NONE) {
                        t[2] = to;
                        slid++;
                    }
                }
            }
            if (spilled == NONE && !s.level()) {
                spilled = minute;
            }
        }
        int[] answer = {spilled, slid, s.number(), s.trunks.isEmpty() ? NONE : s.trunks.get(0)[2]};
        if (stays) {
            now = s;
        }
        return answer;
    }

    private static int neighbour(State s, int room, int axis, int dir) {
        int[] from = s.rooms.get(room);
        for (int p = from[axis] + dir; p >= -9 && p <= 9; p += dir) {
            for (int r = 0; r < s.rooms.size(); r++) {
                int[] to = s.rooms.get(r);
                if (to[axis] == p && to[1 - axis] == from[1 - axis]) {
                    return r;
                }
            }
        }
        return NONE;
    }

    int day(int what) {
        what(what, 3);
        return pass(false)[what];
    }

    int live() {
        return pass(true)[0];
    }

    // ---- seatings ----

    private List<State> seatings(State s) {
        List<State> all = new ArrayList<>();
        int rooms = s.rooms.size();
        int n = s.guests.size();
        int many = (int) Math.round(Math.pow(rooms, n));
        for (int i = 0; i < many; i++) {
            int[] at = new int[n];
            int rest = i;
            for (int g = n - 1; g >= 0; g--) {
                at[g] = rest % rooms;
                rest /= rooms;
            }
            State t = s.seated(at);
            if (t.bedsSuffice()) {
                all.add(t);
            }
        }
        return all;
    }

    int seats(int what) {
        what(what, 2);
        int number = NONE;
        int met = NONE;
        int levels = 0;
        for (State s : seatings(now)) {
            if (s.level()) {
                levels++;
                int m = s.metAll();
                if (m > met) {
                    met = m;
                    number = s.number();
                }
            }
        }
        return what == 0 ? number : what == 1 ? met : levels;
    }

    /** One of the SEATINGS that are LEVEL, for a test to ask about; NONE if there is none. */
    int someLevel(java.util.Random dice) {
        List<State> all = seatings(now);
        all.removeIf(s -> !s.level());
        return all.isEmpty() ? NONE : all.get(dice.nextInt(all.size())).number();
    }

    /** MOMENT by X if a TRUNK weighed so much, all others as little as they may. */
    int momentWith(int trunk, int weight) {
        int sum = now.net(0);
        for (int i = 0; i < now.trunks.size(); i++) {
            int[] t = now.trunks.get(i);
            sum += now.rooms.get(t[2])[0] * (i == trunk ? weight : t[0]);
        }
        return sum;
    }

    int bells(int seating, int k) {
        Set<Integer> allowed = new HashSet<>();
        boolean told = false;
        for (State s : seatings(now)) {
            told |= s.number() == seating;
            if (s.level()) {
                allowed.add(s.number());
            }
        }
        argument(k >= NONE && (told || seating == NONE));
        int target = seating == NONE ? seats(0) : seating;
        if (target == NONE) {
            return NONE;
        }
        List<Integer> way = firstWay(target, allowed);
        if (way == null) {
            return NONE;
        }
        return k == NONE ? way.size() : k < way.size() ? way.get(k) : NONE;
    }

    /** Level by level, of all ways to a state that are as short the first one. */
    private List<Integer> firstWay(int target, Set<Integer> allowed) {
        Map<Integer, List<Integer>> edge = new HashMap<>();
        Set<Integer> seen = new HashSet<>();
        int start = now.number();
        edge.put(start, List.of());
        while (!edge.isEmpty()) {
            if (edge.containsKey(target)) {
                return edge.get(target);
            }
            seen.addAll(edge.keySet());
            Map<Integer, List<Integer>> next = new HashMap<>();
            for (Map.Entry<Integer, List<Integer>> e : edge.entrySet()) {
                for (int g = 0; g < now.guests.size(); g++) {
                    for (int r = 0; r < now.rooms.size(); r++) {
                        int figure = (int) Math.round(Math.pow(8, g));
                        int to = e.getKey() + (r - e.getKey() / figure % 8) * figure;
                        if (seen.contains(to) || !allowed.contains(to)) {
                            continue;
                        }
                        List<Integer> way = new ArrayList<>(e.getValue());
                        way.add(8 * g + r);
                        List<Integer> old = next.get(to);
                        if (old == null || isAhead(way, old)) {
                            next.put(to, way);
                        }
                    }
                }
            }
            edge = next;
        }
        return null;
    }

    private static boolean isAhead(List<Integer> a, List<Integer> b) {
        for (int i = 0; i < a.size(); i++) {
            if (!a.get(i).equals(b.get(i))) {
                return a.get(i) < b.get(i);
            }
        }
        return false;
    }

    int stove(int room) {
        index(room, now.rooms.size());
        if (now.guests.size() == 5) {
            return -3;
        }
        Map<List<Integer>, Integer> far = new HashMap<>();
        ArrayDeque<List<Integer>> queue = new ArrayDeque<>();
        List<Integer> start = new ArrayList<>();
        Arrays.stream(now.sits()).forEach(start::add);
        start.add(now.stoveRoom);
        far.put(start, 0);
        queue.add(start);
        int n = now.guests.size();
        while (!queue.isEmpty()) {
            List<Integer> s = queue.poll();
            if (s.get(n) == room) {
                return far.get(s);
            }
            for (int who = 0; who <= n; who++) {
                for (int r = 0; r < now.rooms.size(); r++) {
                    if (r == s.get(who) || who == n && steps(r, s.get(n)) != 1) {
                        continue;
                    }
                    List<Integer> to = new ArrayList<>(s);
                    to.set(who, r);
                    if (!far.containsKey(to) && stands(to)) {
                        far.put(to, far.get(s) + 1);
                        queue.add(to);
                    }
                }
            }
        }
        return NONE;
    }

    private int steps(int a, int b) {
        int[] p = now.rooms.get(a);
        int[] q = now.rooms.get(b);
        return Math.abs(p[0] - q[0]) + Math.abs(p[1] - q[1]);
    }

    private boolean stands(List<Integer> at) {
        int n = now.guests.size();
        State s = now.seated(at.subList(0, n).stream().mapToInt(i -> i).toArray());
        s.stoveRoom = at.get(n);
        return s.bedsSuffice() && s.level();
    }

    int wake(boolean seating) {
        int[] best = null;
        int[] sits = now.sits();
        for (State s : seatings(now)) {
            if (s.level()) {
                int moved = 0;
                int[] at = s.sits();
                for (int g = 0; g < at.length; g++) {
                    moved += at[g] == sits[g] ? 0 : 1;
                }
                if (best == null || moved < best[0]) {
                    best = new int[] {moved, s.number()};
                }
            }
        }
        return best == null ? NONE : best[seating ? 1 : 0];
    }

    int bucket(boolean room) {
        if (now.level()) {
            return room ? NONE : 0;
        }
        for (int w = 1; w <= 300; w++) {
            for (int r = 0; r < now.rooms.size(); r++) {
                State s = now.copy();
                s.trunks.add(new int[] {w, w, r});
                if (s.level()) {
                    return room ? r : w;
                }
            }
        }
        return NONE;
    }

    int wing(int weight) {
        argument(weight >= 1 && weight <= 999);
        int best = Integer.MAX_VALUE;
        int place = NONE;
        for (int y = -9; y <= 9; y++) {
            for (int x = -9; x <= 9; x++) {
                int off = Math.abs(now.net(0) + weight * x) + Math.abs(now.net(1) + weight * y);
                if (off < best) {
                    best = off;
                    place = 19 * (y + 9) + x + 9;
                }
            }
        }
        return place;
    }

    int unnoticed(boolean first) {
        int many = 0;
        int one = NONE;
        for (int g = 0; g < now.guests.size(); g++) {
            for (int h = g + 1; h < now.guests.size(); h++) {
                for (int r = 0; r < now.rooms.size(); r++) {
                    for (int s = 0; s < now.rooms.size(); s++) {
                        int[] at = now.sits();
                        boolean stay = at[g] == r && at[h] == s;
                        at[g] = r;
                        at[h] = s;
                        State t = now.seated(at);
                        if (!stay && t.net(0) == now.net(0) && t.net(1) == now.net(1)) {
                            many++;
                            if (one == NONE) {
                                one = ((g * 8 + h) * 8 + r) * 8 + s;
                            }
                        }
                    }
                }
            }
        }
        return first ? one : many;
    }

    int read(int x, int y) {
        if (now.readings.size() == 8) {
            throw new UnsupportedOperationException();
        }
        now.readings.add(new int[] {x, y});
        return now.readings.size();
    }

    private List<State> fitting(int reading) {
        index(reading, now.readings.size());
        int[] read = now.readings.get(reading);
        List<State> all = seatings(now);
        all.removeIf(s -> s.net(0) != read[0] || s.net(1) != read[1]);
        return all;
    }

    int fits(int reading) {
        return fitting(reading).size();
    }

    int meeting(int reading, int guest, int other) {
        List<State> all = fitting(reading);
        guest(guest);
        guest(other);
        if (all.isEmpty()) {
            return NONE;
        }
        long together = all.stream().filter(s -> s.sits()[guest] == s.sits()[other]).count();
        return together == all.size() ? 2 : together > 0 ? 1 : 0;
    }

    int weighed(int trunk, int moment) {
        index(trunk, now.trunks.size());
        int[] t = now.trunks.get(trunk);
        long others = now.net(0);
        for (int i = 0; i < now.trunks.size(); i++) {
            if (i != trunk) {
                others += now.trunks.get(i)[0] * now.rooms.get(now.trunks.get(i)[2])[0];
            }
        }
        int x = now.rooms.get(t[2])[0];
        for (long w = t[0]; w <= t[1] && x != 0; w++) {
            if (others + w * x == moment) {
                return (int) w;
            }
        }
        return NONE;
    }

    void weigh(int trunk, int weight) {
        index(trunk, now.trunks.size());
        int[] t = now.trunks.get(trunk);
        argument(weight >= t[0] && weight <= t[1]);
        t[0] = weight;
        t[1] = weight;
    }

    int night(int n) {
        argument(n >= 1 && n <= 500);
        int fell = 0;
        for (int[] r : now.rooms) {
            now.seed = (int) (1103515245L * now.seed + 12345L);
            int more = Math.min((int) ((now.seed & 0x7fff0000L) / 65536 % n), 999 - r[3]);
            r[3] += more;
            fell += more;
        }
        return fell;
    }

    int melt(int n) {
        argument(n >= 0);
        int went = 0;
        for (int[] r : now.rooms) {
            int less = Math.min(n, r[3]);
            r[3] -= less;
            went += less;
        }
        return went;
    }

    int seed(int n) {
        int was = now.seed;
        now.seed = n;
        return was;
    }

    int rent(int guest, int base, int rate) {
        guest(guest);
        argument(base >= 0 && base <= 9999 && rate >= 0 && rate <= 999);
        return Math.max(0, base - room(where(guest), 4) * rate);
    }

    void image() {
        image = now.copy();
    }

    boolean back() {
        if (image == null) {
            return false;
        }
        now = image.copy();
        return true;
    }

    int count(int what) {
        return switch (what) {
            case 0 -> now.rooms.size();
            case 1 -> now.guests.size();
            case 2 -> now.trunks.size();
            case 3 -> now.texts;
            case 4 -> now.book.size();
            case 5 -> now.readings.size();
            case 6 -> now.stoveRoom;
            case 7 -> now.stoveWeight;
            case 8 -> now.bound;
            case 9 -> now.slide;
            case 10 -> now.rooms.stream().mapToInt(r -> r[3]).sum();
            case 11 -> now.wishes.stream().mapToInt(List::size).sum();
            default -> NONE;
        };
    }

    int feed(int... five) {
        if (tape.length + 20 > 400) {
            return NONE;
        }
        int from = tape.length;
        tape = Arrays.copyOf(tape, from + 20);
        for (int i = 0; i < 20; i++) {
            tape[from + i] = (byte) (five[i / 4] >>> (24 - 8 * (i % 4)));
        }
        return tape.length;
    }

    boolean end(int n) {
        if (n < 0 || n > tape.length) {
            return false;
        }
        tape = Arrays.copyOf(tape, n);
        return true;
    }
}
