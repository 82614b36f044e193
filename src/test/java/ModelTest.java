import java.util.ArrayList;
import java.util.List;
import java.util.Random;

/** Long runs of calls, seeded, against the plain model: each answer, and all that can be asked. */
public final class ModelTest extends Bell {
    private static final Checks CHECKS = new Checks("ModelTest");

    private final Random random;
    private final NeverAgain x = new NeverAgain();
    private final Naive y = new Naive();
    private final int run;
    private final List<String> log = new ArrayList<>();

    private ModelTest(int run) {
        this.run = run;
        random = new Random(run);
    }

    private int between(int low, int high) {
        return low + random.nextInt(high - low + 1);
    }

    /** Mostly within the bounds, now and then just outside or far away. */
    private int about(int low, int high) {
        switch (random.nextInt(24)) {
            case 0: return low - 1;
            case 1: return high + 1;
            case 2: return random.nextInt();
            case 3: return random.nextBoolean() ? Integer.MIN_VALUE : Integer.MAX_VALUE;
            default: return between(low, high);
        }
    }

    private void due(String call, long want, long got) {
        log.add(call);
        int before = CHECKS.wrong();
        CHECKS.due("run " + run + " call " + log.size() + " " + call, want, got);
        if (CHECKS.wrong() != before && before < 3) {
            System.out.println("  after " + log);
        }
    }

    private String someText() {
        StringBuilder t = new StringBuilder();
        int most = between(4, 16);
        int matters = between(1, 4);
        if (random.nextInt(5) > 0) {
            t.append("most ").append(most).append(";");
        } else {
            most = 12;
        }
        if (random.nextInt(5) > 0) {
            t.append("matters ").append(matters);
            for (int m = between(0, matters); m > 0; m--) {
                t.append(" ").append(between(1, 9));
            }
            t.append(" ;");
        } else {
            matters = 2;
        }
        if (random.nextBoolean()) {
            t.append("gap ").append(between(0, random.nextBoolean() ? 4 : 20)).append(";");
        }
        if (random.nextBoolean()) {
            t.append(" near;");
        }
        if (random.nextInt(3) > 0) {
            t.append("book ").append(List.of("fixed", "rank", "told").get(random.nextInt(3))).append(";");
        }
        for (int n = 1; n <= most; n++) {
            if (random.nextInt(3) > 0) {
                t.append("page ").append(n).append(" ").append(between(0, matters - 1)).append(";");
            }
        }
        if (random.nextInt(3) > 0) {
            t.append("rung");
            for (int i = between(1, random.nextInt(4) == 0 ? 60 : 12); i > 0; i--) {
                t.append(" ").append(between(0, most));
            }
            t.append(";");
        }
        if (random.nextInt(3) > 0) {
            t.append("ask");
            for (int i = between(1, 5); i > 0; i--) {
                t.append(" ").append(between(0, matters - 1));
            }
            t.append(";");
        }
        for (int i = between(0, 4); i > 0; i--) {
            t.append("wait ").append(between(0, matters - 1)).append(" ").append(between(0, 4)).append(";");
        }
        return t.toString();
    }

    private String spoilt(String text) {
        StringBuilder t = new StringBuilder(text);
        String signs = "  ;;0123456789amgnbprwtokis,Z\u0000\u00ff";
        String[] pieces = {"most 4;", "near;", "gap 3;", "book told;", "page 1 0;", "wait 0 4;", "wait 1 2;",
            "ask 1 0 1;", "ask 3;", "rung 16;", "rung 0 0 0 0 0;", "matters 3 1 9 3 1;", "matters 2 1 2 0;", "page 17", "100",
            "book", "rung 0 17", "ask 0 0 0 0 0 4", "most"};
        for (int i = between(1, 3); i > 0; i--) {
            int at = between(0, t.length());
            switch (random.nextInt(6)) {
                case 0: t.insert(at, signs.charAt(random.nextInt(signs.length()))); break;
                case 1: if (at < t.length()) t.deleteCharAt(at); break;
                case 2: if (at < t.length()) t.setCharAt(at, signs.charAt(random.nextInt(signs.length()))); break;
                case 3: t.setLength(at); break;
                case 4: t.append(pieces[random.nextInt(pieces.length)]); break;
                default: t.insert(0, pieces[random.nextInt(pieces.length)]);
            }
        }
        return t.toString();
    }

    private void tellText(String text) {
        for (int i = 0; i < text.length(); i += 8) {
            long v = 0;
            for (int j = 0; j < 8; j++) {
                v = v << 8 | (i + j < text.length() ? text.charAt(i + j) & 255 : 32);
            }
            due("feed of " + text, y.feed(v), x.feed(v));
        }
        int n = text.length();
        due("end " + n, y.end(n), x.end(n));
        due("text of " + text, y.text(), x.text());
        due("fault", y.fault, x.fault());
        lookAtState();
    }

    private void lookAtState() {
        for (int i = -1; i <= 6; i++) {
            due("rule " + i, y.rule(i), x.rule(i));
        }
        for (int i = -1; i <= 60; i++) {
            due("day " + i, y.day(i), x.day(i));
        }
        for (int i = -1; i <= 4; i++) {
            due("weight " + i, y.weight(i), x.weight(i));
        }
        for (int i = -1; i <= 17; i++) {
            due("page " + i, y.page(i), x.page(i));
            due("means " + i, y.means(i), x.means(i));
        }
        for (int i = -1; i <= 7; i++) {
            due("count " + i, y.count(i), x.count(i));
        }
        due("may", y.may(), x.may());
        due("torn", y.torn, x.torn());
        due("fault", y.fault, x.fault());
    }

    private void change() {
        int a = about(0, 16);
        int b = about(0, 4);
        switch (random.nextInt(14)) {
            case 0: { int v = about(0, 20); due("gap " + v, y.gap(v), x.gap(v)); break; }
            case 1: { int v = about(0, 1); due("near " + v, y.near(v), x.near(v)); break; }
            case 2: { int v = about(0, 2); due("book " + v, y.book(v), x.book(v)); break; }
            case 3: {
                int m = random.nextInt(4) == 0 ? -4 : b;
                due("write " + a + " " + m, y.write(a, m), x.write(a, m));
                break;
            }
            case 4: { int n = about(0, y.s.days.size()); due("undo " + n, y.undo(n), x.undo(n)); break; }
            case 5: { int n = about(0, y.year.size()); due("cut " + n, y.cut(n), x.cut(n)); break; }
            case 6: { int n = about(0, y.s.asked.size()); due("drop " + n, y.drop(n), x.drop(n)); break; }
            case 7: due("serve", y.serve(), x.serve()); break;
            case 8: { int k = about(0, 1); due("keep " + k, y.keep(k), x.keep(k)); break; }
            case 9: { int k = about(0, 1); due("back " + k, y.back(k), x.back(k)); break; }
            case 10: {
                int k = about(0, 3);
                int lane = about(0, 2);
                int n = about(0, 40);
                due("sheet " + k + " " + lane + " " + n, y.sheet(k, lane, n), x.sheet(k, lane, n));
                break;
            }
            case 11: { long v = random.nextLong(); due("feed", y.feed(v), x.feed(v)); break; }
            case 12: { int n = about(0, y.tape.length()); due("end " + n, y.end(n), x.end(n)); break; }
            default:
                if (random.nextInt(8) == 0) {
                    due("text", y.text(), x.text());
                }
        }
    }

    private void add() {
        int n = about(0, y.s.most);
        int m = about(0, y.s.matters - 1);
        switch (random.nextInt(6)) {
            case 0: case 1: due("ring " + n, y.ring(n), x.ring(n)); break;
            case 2: due("tell " + n, y.tell(n), x.tell(n)); break;
            case 3: due("ask " + m, y.ask(m), x.ask(m)); break;
            case 4: { int u = about(0, 4); due("stay " + m + " " + u, y.stay(m, u), x.stay(m, u)); break; }
            default: sheets();
        }
    }

    private void sheets() {
        int k = random.nextInt(10) == 0 ? about(0, 3) : between(0, 1);
        for (int i = between(0, 5); i > 0; i--) {
            int at = about(0, 9);
            int v = random.nextInt(6) == 0 ? about(-1, 17) : between(0, y.s.most) + (random.nextInt(8) == 0 ? 256 : 0);
            due("lay " + k + " " + at + " " + v, y.lay(k, at, v), x.lay(k, at, v));
        }
        int lane = about(0, 2);
        int f = about(0, 9);
        int n = random.nextInt(3) == 0 ? about(0, 20) : between(0, 4);
        due("read " + k + " " + lane + " " + f + " " + n, y.read(k, lane, f, n), x.read(k, lane, f, n));
        due("torn", y.torn, x.torn());
    }

    private void look() {
        int what = about(0, 1);
        switch (random.nextInt(10)) {
            case 0: { int m = about(0, 3); due("cheap " + m, y.cheap(m), x.cheap(m)); break; }
            case 1: due("holds", y.holds(), x.holds()); break;
            case 2: due("judge " + what, y.judge(what), x.judge(what)); break;
            case 3: {
                int k = about(0, 10);
                int n = about(1, 16);
                due("reads " + k + " " + n, y.reads(k, n), x.reads(k, n));
                break;
            }
            case 4: { int k = about(0, 10); due("alike " + k, y.alike(k), x.alike(k)); break; }
            case 5: {
                int n = about(1, 6);
                int strokes = random.nextBoolean() ? between(1, 40) : about(0, 100);
                int w = about(0, 2);
                due("forgotten " + n + " " + strokes + " " + w, y.forgotten(n, strokes, w), x.forgotten(n, strokes, w));
                break;
            }
            case 6: { int n = about(1, 4); due("mean " + n + " " + what, y.mean(n, what), x.mean(n, what)); break; }
            case 7: { int w = about(9, 15); due("byRule " + w, y.byRule(w), x.byRule(w)); break; }
            default: lookAtState();
        }
    }

    /** How many ways the plain model would have to try: it is asked only where they are few. */
    private double size(int length) {
        return Math.pow(Math.max(1, (double) y.s.most / y.s.matters), length);
    }

    private void dearLook() {
        if (size(y.s.asked.size()) < 3000) {
            due("plan 0", y.plan(0), x.plan(0));
            int w = about(9, 15);
            due("plan " + w, y.plan(w), x.plan(w));
            due("byRule 0", y.byRule(0), x.byRule(0));
            due("byRule " + w, y.byRule(w), x.byRule(w));
        }
        int waits = y.s.waits.size();
        if (size(waits) * waits * waits < 3000) {
            due("putOff 0", y.putOff(0), x.putOff(0));
            for (int i = 0; i < 2; i++) {
                int w = about(9, 24);
                due("putOff " + w, y.putOff(w), x.putOff(w));
            }
        }
        int n = about(1, 3);
        if (n > 3 || n < 1 || size(n) * Math.pow(y.s.matters, n) < 3000) {
            int what = about(0, 1);
            due("worst " + n + " " + what, y.worst(n, what), x.worst(n, what));
        }
    }

    private void go() {
        String text = someText();
        tellText(text.length() > 390 ? "" : text);
        for (int call = 0; call < 40; call++) {
            int kind = random.nextInt(10);
            if (kind < 2) {
                change();
            } else if (kind < 6) {
                add();
            } else if (kind < 9) {
                look();
            } else {
                dearLook();
            }
        }
        dearLook();
        lookAtState();
        for (int i = 0; i < 6; i++) {
            String bad = spoilt(someText());
            due("end 0", y.end(0), x.end(0));
            if (bad.length() <= 400) {
                tellText(bad);
            }
        }
    }

    public static void main(String[] args) {
        int from = args.length > 0 ? Integer.parseInt(args[0]) : 0;
        int runs = args.length > 1 ? Integer.parseInt(args[1]) : 1000;
        for (int run = from; run < from + runs; run++) {
            new ModelTest(run).go();
        }
        CHECKS.close();
    }
}
