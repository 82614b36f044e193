/** What the tests of the class share: its answers by name, texts that are told, bits. */
abstract class Bell {
    static final int BAD = -1, STATE = -2, FULL = -3, NONE = -4;
    static final int LOW = Integer.MIN_VALUE, HIGH = Integer.MAX_VALUE;

    /** Puts a text on the tape, whose length need not be a multiple of eight. */
    static void feedText(NeverAgain x, String text) {
        for (int i = 0; i < text.length(); i += 8) {
            long v = 0;
            for (int j = 0; j < 8; j++) {
                int c = i + j < text.length() ? text.charAt(i + j) & 255 : 32;
                v = v << 8 | c;
            }
            x.feed(v);
        }
        x.end(text.length());
    }

    static int tell(NeverAgain x, String text) {
        feedText(x, text);
        return x.text();
    }

    static NeverAgain told(String text) {
        NeverAgain x = new NeverAgain();
        int lines = tell(x, text);
        if (lines < 0) {
            throw new IllegalStateException("the test's own text is refused: " + text + " " + lines);
        }
        return x;
    }

    static int bits(int... numbers) {
        int bits = 0;
        for (int n : numbers) {
            bits |= 1 << n;
        }
        return bits;
    }

    /** All numbers from 1 to the most. */
    static int upTo(int most) {
        return (1 << (most + 1)) - 2;
    }
}
