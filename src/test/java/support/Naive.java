import java.math.BigInteger;
import java.util.ArrayList;
import java.util.Arrays;
import java.util.List;

/**
 * The document once more, in the plainest and slowest way: every search tries all there is,
 * every day is looked at anew. It shares no code with the class that is tested.
 */
final class Naive {
    static final int BAD = -1, STATE = -2, FULL = -3, NONE = -4;

    static final class State {
        int most = 12, matters = 2, gap, near, book;
        int[] weights = {1, 1, 1, 1};
        int[] pages = new int[17];
        List<Integer> days = new ArrayList<>();
        List<Integer> asked = new ArrayList<>();
        List<int[]> waits = new ArrayList<>();

        State() {
            Arrays.fill(pages, NONE);
        }

        State copy() {
            State s = new State();
            s.most = most;
            s.matters = matters;
            s.gap = gap;
            s.near = near;
            s.book = book;
            s.weights = weights.clone();
            s.pages = pages.clone();
            s.days = new ArrayList<>(days);
            s.asked = new ArrayList<>(asked);
            s.waits = new ArrayList<>(waits);
            return s;
        }
    }

    static final class TextFault extends Exception {
        private static final long serialVersionUID = 1;
        final int kind;
        final int place;

        TextFault(int kind, int place) {
            this.kind = kind;
            this.place = place;
        }
    }

    State s = new State();
    State[] images = new State[2];
    List<Integer> year = new ArrayList<>();
    StringBuilder tape = new StringBuilder();
    Object[] sheets = new Object[4];
    int fault, torn;

    // ---- the text

    int feed(long v) {
        if (tape.length() + 8 > 400) {
            return FULL;
        }
        for (int i = 7; i >= 0; i--) {
            tape.append((char) (v >> (8 * i) & 255));
        }
        return tape.length();
    }

    int end(int n) {
        int had = tape.length();
        if (n < 0 || n > had) {
            return BAD;
        }
        tape.setLength(n);
        return had;
    }

    int text() {
        String t = tape.toString();
        tape.setLength(0);
        try {
            Parser p = new Parser(t);
            int lines = p.all();
            s = p.s;
            year.clear();
            images = new State[2];
            fault = 0;
            return lines;
        } catch (TextFault f) {
            fault = f.kind;
            return -10 - f.place;
        }
    }

    static final class Parser {
        final String t;
        final State s = new State();
        final List<String> once = new ArrayList<>();
        int at;
        int start;
        String token;

        Parser(String t) {
            this.t = t;
        }

        void next() throws TextFault {
            while (at < t.length() && t.charAt(at) == ' ') {
                at++;
            }
            start = at;
            String rest = t.substring(at);
            if (rest.isEmpty()) {
                token = "";
                return;
            }
            if (rest.startsWith(";")) {
                token = ";";
            } else {
                token = rest.replaceFirst("(?s)^([a-z]+|[0-9]+)?.*$", "$1");
                if (token.isEmpty() || (Character.isDigit(token.charAt(0)) && token.length() > 2)) {
                    throw new TextFault(1, start);
                }
            }
            at += token.length();
        }

        int number(int lo, int hi) throws TextFault {
            if (!token.matches("[0-9]+")) {
                throw new TextFault(2, start);
            }
            int n = Integer.parseInt(token);
            if (n < lo || n > hi) {
                throw new TextFault(3, start);
            }
            return n;
        }

        int all() throws TextFault {
            int lines = 0;
            next();
            while (!token.isEmpty()) {
                line();
                lines++;
                next();
            }
            boolean there = true;
            for (int n = 1; n <= 16; n++) {
                there &= s.pages[n] == NONE || (n <= s.most && s.pages[n] < s.matters);
            }
            for (int d : s.days) {
                there &= d <= s.most;
            }
            for (int m : s.asked) {
                there &= m < s.matters;
            }
            for (int[] w : s.waits) {
                there &= w[0] < s.matters;
            }
            if (!there) {
                throw new TextFault(6, t.length());
            }
            return lines;
        }

        void line() throws TextFault {
            String name = token;
            if (!List.of("most", "matters", "gap", "near", "book", "page", "rung", "ask", "wait").contains(name)) {
                throw new TextFault(2, start);
            }
            if (List.of("most", "matters", "gap", "near", "book").contains(name)) {
                if (once.contains(name)) {
                    throw new TextFault(4, start);
                }
                once.add(name);
            }
            if (name.equals("wait") && s.waits.size() == 4) {
                throw new TextFault(5, start);
            }
            next();
            switch (name) {
                case "most": s.most = number(4, 16); next(); break;
                case "gap": s.gap = number(0, 20); next(); break;
                case "near": s.near = 1; break;
                case "book":
                    s.book = List.of("fixed", "rank", "told").indexOf(token);
                    if (s.book < 0) {
                        throw new TextFault(2, start);
                    }
                    next();
                    break;
                case "page": {
                    int n = number(1, 16);
                    if (s.pages[n] != NONE) {
                        throw new TextFault(4, start);
                    }
                    next();
                    s.pages[n] = number(0, 3);
                    next();
                    break;
                }
                case "wait": {
                    int m = number(0, 3);
                    next();
                    s.waits.add(new int[] {m, number(0, 4)});
                    next();
                    break;
                }
                default: list(name);
            }
            if (!token.equals(";")) {
                throw new TextFault(2, start);
            }
        }

        void list(String name) throws TextFault {
            int i = 0;
            do {
                if (name.equals("matters") && i == 0) {
                    s.matters = number(1, 4);
                } else if (name.equals("matters")) {
                    int w = number(1, 9);
                    if (i > s.matters) {
                        throw new TextFault(5, start);
                    }
                    s.weights[i - 1] = w;
                } else {
                    boolean rung = name.equals("rung");
                    int n = number(0, rung ? 16 : 3);
                    List<Integer> row = rung ? s.days : s.asked;
                    if (row.size() == (rung ? 60 : 5)) {
                        throw new TextFault(5, start);
                    }
                    row.add(n);
                }
                i++;
                next();
            } while (token.matches("[0-9]+"));
        }
    }

    int rule(int what) {
        int[] all = {s.most, s.matters, s.gap, s.near, s.book, s.days.size()};
        return what < 0 || what > 5 ? BAD : all[what];
    }

    int day(int t) {
        return t < 0 || t >= s.days.size() ? BAD : s.days.get(t);
    }

    int weight(int m) {
        return m < 0 || m >= s.matters ? BAD : s.weights[m];
    }

    int page(int n) {
        return n < 1 || n > s.most ? BAD : s.pages[n];
    }

    // ---- what is changed

    int gap(int v) {
        int was = s.gap;
        if (v < 0 || v > 20) {
            return BAD;
        }
        s.gap = v;
        return was;
    }

    int near(int v) {
        int was = s.near;
        if (v < 0 || v > 1) {
            return BAD;
        }
        s.near = v;
        return was;
    }

    int book(int v) {
        int was = s.book;
        if (v < 0 || v > 2) {
            return BAD;
        }
        s.book = v;
        return was;
    }

    int write(int n, int m) {
        if (n < 1 || n > s.most || !(m == NONE || (m >= 0 && m < s.matters))) {
            return BAD;
        }
        int was = s.pages[n];
        s.pages[n] = m;
        return was;
    }

    int undo(int n) {
        return cutTo(s.days, n);
    }

    static int cutTo(List<Integer> row, int n) {
        int were = row.size();
        if (n < 0 || n > were) {
            return BAD;
        }
        row.subList(n, were).clear();
        return were;
    }

    // ---- days

    boolean free(int n, List<Integer> days) {
        for (int t = 0; t < days.size(); t++) {
            if (days.get(t) == n && (s.gap == 0 || days.size() < t + s.gap)) {
                return false;
            }
        }
        int yesterday = days.isEmpty() ? 0 : days.get(days.size() - 1);
        return !(s.near == 1 && yesterday != 0 && Math.abs(yesterday - n) == 1);
    }

    int meaning(int n, List<Integer> days) {
        if (s.book == 0) {
            return (n - 1) % s.matters;
        }
        if (s.book == 2) {
            return s.pages[n];
        }
        int m = 0;
        for (int i = 1; i <= s.most; i++) {
            if (free(i, days)) {
                if (i == n) {
                    return m;
                }
                m = (m + 1) % s.matters;
            }
        }
        return NONE;
    }

    List<Integer> ways(int m, List<Integer> days) {
        List<Integer> all = new ArrayList<>();
        for (int n = 1; n <= s.most; n++) {
            if (free(n, days) && meaning(n, days) == m) {
                all.add(n);
            }
        }
        return all;
    }

    static List<Integer> with(List<Integer> days, int n) {
        List<Integer> more = new ArrayList<>(days);
        more.add(n);
        return more;
    }

    int may() {
        int bits = 0;
        for (int n = 1; n <= s.most; n++) {
            bits |= free(n, s.days) ? 1 << n : 0;
        }
        return bits;
    }

    int means(int n) {
        return n < 1 || n > s.most ? BAD : meaning(n, s.days);
    }

    int cheap(int m) {
        if (m < 0 || m >= s.matters) {
            return BAD;
        }
        List<Integer> all = ways(m, s.days);
        return all.isEmpty() ? NONE : all.get(0);
    }

    int ring(int n) {
        if (n < 0 || n > s.most) {
            return BAD;
        }
        if (n > 0 && !free(n, s.days)) {
            return STATE;
        }
        if (s.days.size() == 60) {
            return FULL;
        }
        int meant = n == 0 ? NONE : meaning(n, s.days);
        s.days.add(n);
        return meant;
    }

    int holds() {
        List<Integer> days = new ArrayList<>(s.days);
        int went = 0;
        boolean stuck = false;
        while (went < 61 && !stuck) {
            int n = 1;
            while (n <= s.most && !free(n, days)) {
                n++;
            }
            stuck = n > s.most;
            if (!stuck) {
                days.add(n);
                went++;
            }
        }
        return went;
    }

    // ---- a year

    int tell(int n) {
        if (n < 0 || n > s.most) {
            return BAD;
        }
        if (year.size() == 12) {
            return FULL;
        }
        year.add(n);
        return year.size();
    }

    int cut(int n) {
        return cutTo(year, n);
    }

    int judge(int what) {
        if (what < 0 || what > 1) {
            return BAD;
        }
        List<Integer> days = s.days;
        for (int i = 0; i < year.size(); i++) {
            int n = year.get(i);
            if (n > 0 && !free(n, days)) {
                return what == 0 ? i : 0;
            }
            if (n > 0 && meaning(n, days) == NONE) {
                return what == 0 ? i : 1;
            }
            days = with(days, n);
        }
        return NONE;
    }

    // ---- plans

    int ask(int m) {
        if (m < 0 || m >= s.matters) {
            return BAD;
        }
        if (s.asked.size() == 5) {
            return FULL;
        }
        s.asked.add(m);
        return s.asked.size();
    }

    int drop(int n) {
        return cutTo(s.asked, n);
    }

    /** Every row of numbers that tells the matters, in the order of its numbers. */
    void allPlans(List<Integer> matters, List<Integer> days, List<Integer> row, List<List<Integer>> out) {
        if (row.size() == matters.size()) {
            out.add(row);
            return;
        }
        for (int n : ways(matters.get(row.size()), days)) {
            allPlans(matters, with(days, n), with(row, n), out);
        }
    }

    static int sum(List<Integer> row) {
        int sum = 0;
        for (int n : row) {
            sum += n;
        }
        return sum;
    }

    List<Integer> cheapest(List<Integer> matters) {
        List<List<Integer>> all = new ArrayList<>();
        allPlans(matters, s.days, new ArrayList<>(), all);
        List<Integer> best = null;
        for (List<Integer> row : all) {
            if (best == null || sum(row) < sum(best)) {
                best = row;
            }
        }
        return best;
    }

    List<Integer> ruled(List<Integer> matters) {
        List<Integer> row = new ArrayList<>();
        List<Integer> days = s.days;
        for (int m : matters) {
            List<Integer> all = ways(m, days);
            if (all.isEmpty()) {
                return null;
            }
            row.add(all.get(0));
            days = with(days, all.get(0));
        }
        return row;
    }

    static int planAnswer(List<Integer> row, int what) {
        if (row == null) {
            return NONE;
        }
        if (what == 0) {
            return sum(row);
        }
        return what - 10 < row.size() ? row.get(what - 10) : NONE;
    }

    int plan(int what) {
        return what == 0 || (what >= 10 && what <= 14) ? planAnswer(cheapest(s.asked), what) : BAD;
    }

    int byRule(int what) {
        return what == 0 || (what >= 10 && what <= 14) ? planAnswer(ruled(s.asked), what) : BAD;
    }

    int worst(int n, int what) {
        if (n < 1 || n > 3 || what < 0 || what > 1) {
            return BAD;
        }
        int most = NONE;
        int found = NONE;
        for (int code = 0; code < Math.pow(4, n); code++) {
            List<Integer> matters = new ArrayList<>();
            boolean there = true;
            for (int i = n - 1; i >= 0; i--) {
                int m = code / (int) Math.pow(4, i) % 4;
                matters.add(m);
                there &= m < s.matters;
            }
            List<Integer> rule = there ? ruled(matters) : null;
            List<Integer> plan = there ? cheapest(matters) : null;
            if (rule != null && plan != null && sum(rule) - sum(plan) > most) {
                most = sum(rule) - sum(plan);
                found = code;
            }
        }
        return what == 0 ? most : found;
    }

    long mean(int n, int what) {
        if (n < 1 || n > 4 || what < 0 || what > 1) {
            return BAD;
        }
        BigInteger whole = BigInteger.ZERO;
        for (int m = 0; m < s.matters; m++) {
            whole = whole.add(BigInteger.valueOf(s.weights[m]));
        }
        BigInteger low = whole.pow(n);
        BigInteger high = allRows(n, s.days, BigInteger.ONE, 0);
        BigInteger gcd = high.gcd(low);
        return (what == 0 ? high : low).divide(gcd).longValueExact();
    }

    BigInteger allRows(int left, List<Integer> days, BigInteger weight, int strokes) {
        if (left == 0) {
            return weight.multiply(BigInteger.valueOf(strokes));
        }
        BigInteger sum = BigInteger.ZERO;
        for (int m = 0; m < s.matters; m++) {
            List<Integer> all = ways(m, days);
            int n = all.isEmpty() ? 0 : all.get(0);
            int cost = n == 0 ? s.most + 1 : n;
            BigInteger w = weight.multiply(BigInteger.valueOf(s.weights[m]));
            sum = sum.add(allRows(left - 1, with(days, n), w, strokes + cost));
        }
        return sum;
    }

    // ---- who missed days

    List<Integer> missed(int k) {
        List<Integer> days = new ArrayList<>(s.days);
        for (int t = Math.max(0, days.size() - k); t < days.size(); t++) {
            days.set(t, 0);
        }
        return days;
    }

    int reads(int k, int n) {
        return k < 0 || k > 10 || n < 1 || n > s.most ? BAD : meaning(n, missed(k));
    }

    int alike(int k) {
        if (k < 0 || k > 10) {
            return BAD;
        }
        int bits = 0;
        for (int n = 1; n <= s.most; n++) {
            int meant = meaning(n, s.days);
            if (free(n, s.days) && meant != NONE && meaning(n, missed(k)) == meant) {
                bits |= 1 << n;
            }
        }
        return bits;
    }

    // ---- put off

    int stay(int m, int until) {
        if (m < 0 || m >= s.matters || until < 0 || until > 4) {
            return BAD;
        }
        if (s.waits.size() == 4) {
            return FULL;
        }
        s.waits.add(new int[] {m, until});
        return s.waits.size();
    }

    int serve() {
        int were = s.waits.size();
        s.waits.clear();
        return were;
    }

    /** What is done on the five days: pairs of who waits (9: nobody) and the number (0). */
    private int[][] bestDone;
    private int bestStrokes;

    void allDone(int day, List<Integer> days, int[][] done) {
        if (day == 5) {
            int strokes = 0;
            int served = 0;
            for (int[] d : done) {
                strokes += d[1];
                served += d[1] > 0 ? 1 : 0;
            }
            boolean better = strokes < bestStrokes
                || (strokes == bestStrokes && compareDone(done, bestDone) < 0);
            if (served == s.waits.size() && better) {
                bestStrokes = strokes;
                bestDone = new int[5][];
                for (int i = 0; i < 5; i++) {
                    bestDone[i] = done[i].clone();
                }
            }
            return;
        }
        // The silent day is tried first, so that the order of the trials does not decide.
        done[day] = new int[] {9, 0};
        allDone(day + 1, with(days, 0), done);
        for (int i = s.waits.size() - 1; i >= 0; i--) {
            boolean served = false;
            for (int d = 0; d < day; d++) {
                served |= done[d][0] == i;
            }
            if (!served && day <= s.waits.get(i)[1]) {
                for (int n : ways(s.waits.get(i)[0], days)) {
                    done[day] = new int[] {i, n};
                    allDone(day + 1, with(days, n), done);
                }
            }
        }
        done[day] = new int[] {9, 0};
    }

    static int compareDone(int[][] a, int[][] b) {
        for (int i = 0; i < 5; i++) {
            int c = Arrays.compare(a[i], b[i]);
            if (c != 0) {
                return c;
            }
        }
        return 0;
    }

    int putOff(int what) {
        boolean known = what == 0 || (what >= 10 && what <= 13) || (what >= 20 && what <= 23);
        if (!known) {
            return BAD;
        }
        bestStrokes = Integer.MAX_VALUE;
        bestDone = null;
        allDone(0, s.days, new int[5][]);
        if (bestDone == null) {
            return NONE;
        }
        if (what == 0) {
            return bestStrokes;
        }
        for (int d = 0; d < 5; d++) {
            if (bestDone[d][0] == what % 10) {
                return what < 20 ? d : bestDone[d][1];
            }
        }
        return NONE;
    }

    // ---- forgotten

    int forgotten(int n, int strokes, int what) {
        if (n < 1 || n > 6 || strokes < 0 || strokes > 100 || what < 0 || what > 2) {
            return BAD;
        }
        int found = 0;
        int first = 0;
        int inAll = -1;
        for (int bits = 0; bits < 1 << (s.most + 1); bits += 2) {
            if (Integer.bitCount(bits) != n) {
                continue;
            }
            int sum = 0;
            boolean rung = false;
            for (int i = 1; i <= s.most; i++) {
                if ((bits >> i & 1) == 1) {
                    sum += i;
                    rung |= s.days.contains(i);
                }
            }
            if (sum == strokes && !rung) {
                found++;
                inAll &= bits;
                // Of two sets of one size, that which has the least number they differ in is first.
                if (first == 0 || (bits & Integer.lowestOneBit(bits ^ first)) != 0) {
                    first = bits;
                }
            }
        }
        if (what == 0) {
            return found;
        }
        return found == 0 ? NONE : what == 1 ? first : inAll;
    }

    // ---- images, sheets

    int keep(int k) {
        if (k < 0 || k > 1) {
            return BAD;
        }
        int was = images[k] == null ? 0 : 1;
        images[k] = s.copy();
        return was;
    }

    int back(int k) {
        if (k < 0 || k > 1) {
            return BAD;
        }
        if (images[k] == null) {
            return STATE;
        }
        s = images[k].copy();
        return s.days.size();
    }

    int sheet(int k, int lane, int n) {
        if (k < 0 || k > 3 || lane < 0 || lane > 2 || n > 40) {
            return BAD;
        }
        try {
            sheets[k] = lane == 0 ? new byte[n] : lane == 1 ? (Object) new short[n] : new int[n];
            return 1;
        } catch (NegativeArraySizeException e) {
            return -14;
        }
    }

    int lay(int k, int i, int v) {
        if (k < 0 || k > 3) {
            return BAD;
        }
        try {
            if (sheets[k] instanceof byte[]) {
                ((byte[]) sheets[k])[i] = (byte) v;
            } else if (sheets[k] instanceof short[]) {
                ((short[]) sheets[k])[i] = (short) v;
            } else {
                ((int[]) sheets[k])[i] = v;
            }
            return 1;
        } catch (NullPointerException e) {
            return -11;
        } catch (ArrayIndexOutOfBoundsException e) {
            return -12;
        }
    }

    int read(int k, int lane, int f, int n) {
        if (k < 0 || k > 3 || lane < 0 || lane > 2 || n < 0 || n > 20) {
            return BAD;
        }
        int before = s.days.size();
        int went = 0;
        int found = 0;
        try {
            while (went < n) {
                int i = f + went;
                int v = lane == 0 ? ((byte[]) sheets[k])[i]
                    : lane == 1 ? ((short[]) sheets[k])[i] : ((int[]) sheets[k])[i];
                int a = ring(v);
                if (a == BAD || a == STATE || a == FULL) {
                    undo(before);
                    return -20 - went;
                }
                went++;
            }
        } catch (NullPointerException e) {
            found = 1;
        } catch (ArrayIndexOutOfBoundsException e) {
            found = 2;
        } catch (ClassCastException e) {
            found = 3;
        }
        torn = found;
        return went;
    }

    int count(int what) {
        switch (what) {
            case 0: return year.size();
            case 1: return s.asked.size();
            case 2: return s.waits.size();
            case 3: return (images[0] == null ? 0 : 1) + (images[1] == null ? 0 : 1);
            case 4: return tape.length();
            case 5:
                return sheets[0] == null ? NONE : java.lang.reflect.Array.getLength(sheets[0]);
            case 6: return sum(s.days);
            default: return BAD;
        }
    }
}
