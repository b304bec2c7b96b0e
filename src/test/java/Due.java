import java.nio.charset.StandardCharsets;

/** Counts the answers that are not as due, and feeds texts; each test ends with close(). */
final class Due {
    private final String test;
    private int asked = 0;
    private int wrong = 0;

    Due(String test) {
        this.test = test;
    }

    void is(String what, long got, long want) {
        asked++;
        if (got != want) {
            wrong++;
            System.out.println(test + ": " + what + " answered " + got + ", due is " + want);
        }
    }

    void is(String what, boolean got, boolean want) {
        is(what, got ? 1 : 0, want ? 1 : 0);
    }

    void close() {
        System.out.println(test + ": " + asked + " answers, " + wrong + " not as due");
        if (wrong != 0 || asked == 0) {
            System.exit(1);
        }
    }

    /** The text of the object is this one alone then. */
    static void text(CabRanks x, String text) {
        bytes(x, text.getBytes(StandardCharsets.ISO_8859_1));
    }

    /** At most 500 bytes; blanks fill the last feed up and are cut off again. */
    static void bytes(CabRanks x, byte[] bytes) {
        x.end(0);
        int[] n = new int[5];
        for (int from = 0; from < bytes.length; from += 20) {
            for (int k = 0; k < 5; k++) {
                n[k] = 0;
                for (int j = 0; j < 4; j++) {
                    int at = from + 4 * k + j;
                    n[k] = n[k] << 8 | (at < bytes.length ? bytes[at] & 255 : 32);
                }
            }
            x.feed(n[0], n[1], n[2], n[3], n[4]);
        }
        x.end(bytes.length);
    }

    /** A new object with this CITY, or a test that fails. */
    static CabRanks city(String text) {
        CabRanks x = new CabRanks();
        text(x, text);
        if (x.city() < 1) {
            throw new IllegalArgumentException("a test's own city is wrong: " + text);
        }
        return x;
    }
}
