import java.nio.charset.StandardCharsets;

/** Counts answers that are not the ones that are due, and writes texts on the tape. */
final class Due {
    private int asked = 0;
    private int wrong = 0;
    private String sentence = "";

    /** What the document says, word for word, and the answers that come next rest on. */
    void says(String words) {
        sentence = '"' + words + "\": ";
    }

    void is(String call, long got, long want) {
        asked++;
        if (got != want) {
            wrong++;
            System.out.println(sentence + call + " answered " + got + ", due is " + want);
        }
    }

    void yes(String call, boolean got) {
        is(call, got ? 1 : 0, 1);
    }

    void no(String call, boolean got) {
        is(call, got ? 1 : 0, 0);
    }

    /** Ends the program with exit code 1 if an answer was wrong. */
    void close() {
        System.out.println(asked + " answers, " + wrong + " wrong");
        if (wrong != 0 || asked == 0) {
            System.exit(1);
        }
    }

    static byte[] bytesOf(String text) {
        return text.getBytes(StandardCharsets.ISO_8859_1);
    }

    /** The i-th number, of four bytes, of a text; zeroes behind its end. */
    static int number(byte[] bytes, int i) {
        int v = 0;
        for (int j = 4 * i; j < 4 * i + 4; j++) {
            v = v << 8 | (j < bytes.length ? bytes[j] & 255 : 0);
        }
        return v;
    }

    /** Writes a text on the empty tape. */
    static void write(GoldPlate x, String text) {
        byte[] bytes = bytesOf(text);
        for (int i = 0; i < bytes.length; i += 20) {
            int n = i / 4;
            x.feed(number(bytes, n), number(bytes, n + 1), number(bytes, n + 2), number(bytes, n + 3),
                    number(bytes, n + 4));
        }
        x.end(bytes.length);
    }

    static int mind(GoldPlate x, int k, String text) {
        write(x, text);
        return x.mind(k);
    }
}
