import java.nio.charset.StandardCharsets;

/** Counts the answers that are not as due, and puts texts on a tape. */
final class Due {
    private final String name;
    private int asked;
    private int wrong;

    Due(String name) {
        this.name = name;
    }

    void is(String call, long want, long got) {
        asked++;
        if (want != got) {
            wrong++;
            System.out.println(call + " answered " + got + ", due is " + want);
        }
    }

    void yes(String call, boolean got) {
        is(call, 1, got ? 1 : 0);
    }

    void no(String call, boolean got) {
        is(call, 0, got ? 1 : 0);
    }

    /** Prints what came of it, and ends the run with 1 if an answer was wrong. */
    void end() {
        System.out.println(name + ": " + asked + " answers, " + wrong + " wrong");
        if (wrong != 0 || asked == 0) {
            System.exit(1);
        }
    }

    /** Puts a text on an empty tape. */
    static void put(SeamFire x, String text) {
        byte[] bytes = text.getBytes(StandardCharsets.ISO_8859_1);
        if (bytes.length > 300) {
            throw new IllegalArgumentException("the test's text is too long for a tape: " + text);
        }
        x.end(0);
        for (int i = 0; i < bytes.length; i += 20) {
            x.feed(word(bytes, i), word(bytes, i + 4), word(bytes, i + 8), word(bytes, i + 12), word(bytes, i + 16));
        }
        x.end(bytes.length);
    }

    static int word(byte[] bytes, int from) {
        int word = 0;
        for (int i = from; i < from + 4; i++) {
            word = word << 8 | (i < bytes.length ? bytes[i] & 255 : 0);
        }
        return word;
    }

    /** The number of the act that a text is, or NONE. */
    static int act(SeamFire x, String text) {
        put(x, text);
        return x.act();
    }
}
