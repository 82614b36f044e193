/** Counts answers that are not as due, and ends the test with exit code 1 if there was one. */
final class Checks {
    private final String name;
    private int wrong;
    private int all;

    Checks(String name) {
        this.name = name;
    }

    void due(String call, long want, long got) {
        all++;
        if (got != want) {
            wrong++;
            if (wrong <= 40) {
                System.out.println(name + ": " + call + " answered " + got + ", due is " + want);
            }
        }
    }

    void due(String what, boolean holds) {
        due(what, 1, holds ? 1 : 0);
    }

    int wrong() {
        return wrong;
    }

    void close() {
        System.out.println(name + ": " + all + " checks, " + wrong + " wrong");
        if (wrong != 0) {
            System.exit(1);
        }
    }

    /** Puts a text on the tape, whose length need not be a multiple of eight. */
    static void feedText(NeverAgain x, String text) {
        for (int i = 0; i < text.length(); i += 8) {
            long v = 0;
            for (int j = 0; j < 8; j++) {
                int c = i + j < text.length() ? text.charAt(i + j) & 255 : 32;
                v = v << 8 | c;
            }
            x.feed(v);
        }
        x.end(text.length());
    }

    static int tell(NeverAgain x, String text) {
        feedText(x, text);
        return x.text();
    }

    static NeverAgain told(String text) {
        NeverAgain x = new NeverAgain();
        int lines = tell(x, text);
        if (lines < 0) {
            throw new IllegalStateException("the test's own text is refused: " + text + " " + lines);
        }
        return x;
    }

    static int bits(int... numbers) {
        int bits = 0;
        for (int n : numbers) {
            bits |= 1 << n;
        }
        return bits;
    }
}
