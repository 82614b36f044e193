import java.util.ArrayList;
import java.util.List;

/**
 * Asks an object for all that it holds, in parts, the later ones by calls that change it: two
 * objects that answer each part alike hold the same. A part is asked of an object of its own, so
 * that none is used for more than 512 calls.
 */
final class Probe {
    static final int PARTS = 4;

    private static final int NONE = -4;
    private static final int MATTERS = 4;
    private static final int LANES = 3;

    private final NeverAgain x;
    private final List<Long> answers = new ArrayList<>();

    private Probe(NeverAgain x) {
        this.x = x;
    }

    static List<Long> of(NeverAgain x, int part) {
        Probe p = new Probe(x);
        switch (part) {
            case 0:
                p.look();
                break;
            case 1:
                p.images();
                break;
            case 2:
                p.yearAskedWaiting();
                break;
            default:
                p.sheetsAndTape();
        }
        return p.answers;
    }

    private void add(long answer) {
        answers.add(answer);
    }

    private void look() {
        for (int what = 0; what <= 6; what++) {
            add(x.count(what));
        }
        add(x.fault());
        add(x.torn());
        add(x.may());
        add(x.holds());
        for (int m = 0; m < MATTERS; m++) {
            add(x.weight(m));
            add(x.cheap(m));
        }
        lookAtRules();
        add(x.judge(0));
        add(x.judge(1));
        add(x.plan(0));
        add(x.byRule(0));
        add(x.putOff(0));
        add(x.mean(2, 0));
    }

    private void lookAtRules() {
        for (int what = 0; what <= 5; what++) {
            add(x.rule(what));
        }
        for (int t = 0; t < x.rule(5); t++) {
            add(x.day(t));
        }
        for (int n = 1; n <= x.rule(0); n++) {
            add(x.page(n));
        }
    }

    private void images() {
        for (int k = 0; k < 2; k++) {
            add(x.back(k));
            lookAtRules();
            add(x.count(1));
            add(x.count(2));
            add(x.plan(0));
            add(x.putOff(0));
        }
    }

    /** From here on every number may be rung on each day. */
    private void freeAll() {
        x.undo(0);
        x.gap(1);
        x.near(0);
    }

    private void yearAskedWaiting() {
        freeAll();
        x.book(2);
        int most = x.rule(0);
        for (int n = 1; n <= most; n++) {
            x.write(n, 0);
        }
        for (int n = 1; n <= most; n++) {
            x.write(n, NONE);
            add(x.judge(0));
            x.write(n, 0);
        }
        for (int n = 1; n <= most; n++) {
            x.write(n, n <= x.rule(1) ? n - 1 : NONE);
        }
        for (int i = 0; i < 5; i++) {
            add(x.plan(10 + i));
        }
        waiting(1, 2, 3, 4);
        waiting(4, 3, 2, 1);
    }

    /** Each matter has one number alone, which is free the later the greater the gap is. */
    private void waiting(int... days) {
        freeAll();
        for (int n : days) {
            x.ring(n);
        }
        for (int gap = 1; gap <= 8; gap++) {
            x.gap(gap);
            add(x.putOff(0));
            for (int i = 0; i < 4; i++) {
                add(x.putOff(10 + i));
                add(x.putOff(20 + i));
            }
        }
    }

    private void sheetsAndTape() {
        freeAll();
        for (int k = 0; k < 4; k++) {
            for (int lane = 0; lane < LANES; lane++) {
                readSheet(k, lane, 0);
                readSheet(k, lane, 20);
            }
        }
        add(x.text());
        add(x.fault());
        lookAtRules();
    }

    private void readSheet(int k, int lane, int f) {
        int went = x.read(k, lane, f, 20);
        add(went);
        add(x.torn());
        for (int t = 0; t < went; t++) {
            add(x.day(t));
        }
        x.undo(0);
    }
}
