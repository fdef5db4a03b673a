import java.io.IOException;
import java.nio.file.Files;
import java.nio.file.Path;
import java.util.Collections;
import java.util.NoSuchElementException;

/** What the tests of edges share: each is told with its promise's number and the document's own sentence. */
class Edges {
    static final int NONE = PinInn.NONE;
    static final int LEAST_INT = Integer.MIN_VALUE;
    static final int MOST_INT = Integer.MAX_VALUE;
    static final Class<?> INDEX = IndexOutOfBoundsException.class;
    static final Class<?> ARGUMENT = IllegalArgumentException.class;
    static final Class<?> UNSUPPORTED = UnsupportedOperationException.class;
    static final Class<?> ELEMENT = NoSuchElementException.class;

    /** East 0, west 1, north 2, south 3 of the pin, one step off each; the 4th ROOM is on it. */
    static final String CROSS =
        "room 1 0 2;room 1 0 2;west 1;room 0 1 2;room 0 1 2;south 3;room 0 0 1";

    private static final int PROMISES = 36;
    private static final String DOC = document();
    private static final boolean[] TESTED = new boolean[DOC.length()];
    private static final int[] OF_PROMISE = new int[PROMISES + 1];
    private static String label = "";

    private static String document() {
        try {
            return Files.readString(Path.of("../shared/DOC.md")).replaceAll("\\s+", " ");
        } catch (IOException e) {
            throw new IllegalStateException(e);
        }
    }

    private static int sectionOf(int promise) {
        return DOC.indexOf("## Promise " + promise + ":");
    }

    private static int behindSection(int promise) {
        return promise < PROMISES ? sectionOf(promise + 1) : DOC.indexOf("## Not promised");
    }

    /** A test of its own for a sentence, which stands under its promise, or else ahead of all promises. */
    static void edge(int promise, String sentence, Runnable test) {
        label = promise + ": " + sentence;
        OF_PROMISE[promise]++;
        int at = DOC.indexOf(sentence, sectionOf(promise));
        if (at < 0 || at + sentence.length() > behindSection(promise)) {
            at = DOC.indexOf(sentence);
        }
        boolean found = at >= 0 && (at < sectionOf(1) || at >= sectionOf(promise));
        Inn.due(label + " -- a sentence of the document", found, true);
        for (int i = at; found && i < at + sentence.length(); i++) {
            TESTED[i] = true;
        }
        test.run();
    }

    /** Each promise has a test of an edge, and no sentence behind 'Terms' is without one. */
    static void dueAllTested() {
        for (int promise = 1; promise <= PROMISES; promise++) {
            Inn.due("promise " + promise + " has a test of an edge", OF_PROMISE[promise] > 0, true);
        }
        StringBuilder left = new StringBuilder();
        for (int i = DOC.indexOf("## Terms"); i < DOC.indexOf("## Not promised"); i++) {
            left.append(TESTED[i] ? '\n' : DOC.charAt(i));
        }
        String untested = left.toString().replaceAll("## Terms|```text|```|==== 2\\.", "\n")
            .replaceAll("## Promise \\d+: (A new object|\\w+)", "\n").replaceAll("`[^`\n]*`:", "\n");
        for (String part : untested.split("\n")) {
            Inn.due("a sentence without a test: " + part, part.trim().isEmpty(), true);
        }
    }

    static void due(String what, long got, long want) {
        Inn.due(label + " -- " + what, got, want);
    }

    static void due(String what, boolean got, boolean want) {
        Inn.due(label + " -- " + what, got, want);
    }

    static void dueThrow(String what, Class<?> want, Inn.Call call) {
        Inn.dueThrow(label + " -- " + what, want, call);
    }

    /** The call throws, and changes nothing, the TAPE neither. */
    static void refused(PinInn inn, String what, Class<?> want, Inn.Call call) {
        String before = look(inn);
        int fault = inn.fault();
        Inn.feed(inn, "slide 77");
        dueThrow(what, want, call);
        due(what + ": fault()", inn.fault(), fault);
        due(what + ": nothing else changes", look(inn).equals(before), true);
        due(what + ": the TAPE has 8 bytes", !inn.end(9) && inn.end(8), true);
    }

    /** A text with ^ ahead of its first wrong byte: it is wrong there, nothing of it stays, the TAPE is used up. */
    private static void wrong(PinInn inn, String marked, Inn.Call call) {
        String before = look(inn);
        dueThrow("\"" + marked + "\"", ARGUMENT, call);
        due("\"" + marked + "\", fault()", inn.fault(), marked.indexOf('^'));
        due("\"" + marked + "\", nothing stays", look(inn).equals(before), true);
        due("\"" + marked + "\", used up", inn.end(1), false);
    }

    static void wrongHouse(PinInn inn, String marked) {
        wrong(inn, marked, () -> Inn.house(inn, marked.replace("^", "")));
    }

    static void wrongWishes(PinInn inn, int guest, String marked) {
        wrong(inn, marked, () -> Inn.wishes(inn, guest, marked.replace("^", "")));
    }

    static void wrongBook(PinInn inn, String marked) {
        wrong(inn, marked, () -> Inn.book(inn, marked.replace("^", "")));
    }

    /** Wrong behind a new house of its own, for an object is used for 512 calls at most. */
    static void wrongAfter(String house, String... marked) {
        for (String text : marked) {
            wrongHouse(Inn.of(house), text);
        }
    }

    static void rightAfter(String house, String... texts) {
        for (String text : texts) {
            PinInn inn = Inn.of(house);
            due("\"" + text + "\"", answer(() -> Inn.house(inn, text)), 2);
            due("\"" + text + "\", fault()", inn.fault(), NONE);
        }
    }

    /** The answer, or some number that is none if it throws. */
    static long answer(Inn.Call call) {
        try {
            return call.answer();
        } catch (RuntimeException e) {
            return Long.MIN_VALUE;
        }
    }

    static String lines(String line, int n) {
        return String.join(";", Collections.nCopies(n, line));
    }

    /** All that can be asked for without a change; SEED is put back. */
    static String look(PinInn inn) {
        StringBuilder seen = new StringBuilder();
        int[] counts = new int[12];
        for (int what = 0; what < 12; what++) {
            counts[what] = inn.count(what);
            seen.append(counts[what]).append(' ');
        }
        for (int r = 0; r < counts[0]; r++) {
            for (int what = 0; what < 7; what++) {
                seen.append(inn.room(r, what)).append(' ');
            }
        }
        for (int t = 0; t < counts[2]; t++) {
            seen.append(inn.trunk(t, 0)).append(' ').append(inn.trunk(t, 1)).append(' ').append(inn.trunk(t, 2)).append(' ');
        }
        for (int reading = 0; reading < counts[5]; reading++) {
            seen.append(inn.fits(reading)).append(' ');
        }
        for (int what = 0; what < 3; what++) {
            seen.append(inn.moment(false, what)).append(' ').append(inn.moment(true, what)).append(' ');
            seen.append(inn.seats(what)).append(' ').append(inn.day(what)).append(' ');
        }
        int seed = inn.seed(0);
        inn.seed(seed);
        seen.append(seed).append(' ').append(inn.seating()).append(' ').append(inn.unnoticed(false));
        for (int g = 0; g < counts[1]; g++) {
            seen.append(' ').append(inn.where(g)).append(' ').append(inn.met(g));
        }
        return seen.toString();
    }
}
