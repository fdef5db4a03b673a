import java.nio.charset.StandardCharsets;

/** Tells texts to a PinInn, of any length up to 400 bytes. */
final class Inn {
    interface Call {
        long answer();
    }

    private static int wrong = 0;
    private static int asked = 0;

    private Inn() {
    }

    static void feed(PinInn inn, byte[] text) {
        for (int at = 0; at < text.length; at += 20) {
            int[] five = new int[5];
            for (int i = 0; i < 20; i++) {
                int b = at + i < text.length ? text[at + i] & 255 : 0;
                five[i / 4] = five[i / 4] << 8 | b;
            }
            inn.feed(five[0], five[1], five[2], five[3], five[4]);
        }
        inn.end(text.length);
    }

    static PinInn feed(PinInn inn, String text) {
        feed(inn, text.getBytes(StandardCharsets.ISO_8859_1));
        return inn;
    }

    static int house(PinInn inn, String text) {
        return feed(inn, text).house();
    }

    static int wishes(PinInn inn, int guest, String text) {
        return feed(inn, text).wishes(guest);
    }

    static int book(PinInn inn, String text) {
        return feed(inn, text).book();
    }

    static PinInn of(String... texts) {
        PinInn inn = new PinInn();
        for (String text : texts) {
            house(inn, text);
        }
        return inn;
    }

    static void due(String what, long got, long want) {
        asked++;
        if (got != want) {
            wrong++;
            System.out.println(what + " answered " + got + ", due is " + want);
        }
    }

    static void due(String what, boolean got, boolean want) {
        due(what, got ? 1 : 0, want ? 1 : 0);
    }

    static void dueThrow(String what, Class<?> want, Call call) {
        asked++;
        String got;
        try {
            got = "answered " + call.answer();
        } catch (RuntimeException e) {
            if (e.getClass() == want) {
                return;
            }
            got = "threw " + e;
        }
        wrong++;
        System.out.println(what + " " + got + ", due is " + want.getSimpleName());
    }

    static void close(String name) {
        System.out.println(name + ": " + asked + " answers looked at, " + wrong + " not as due");
        if (wrong != 0) {
            System.exit(1);
        }
    }
}
