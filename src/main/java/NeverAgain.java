import java.util.Arrays;

/**
 * A bell that by its charter may not ring a number of strokes again, or not for so many days,
 * or not next to yesterday's. The promises are numbered in the document (DOC.md).
 */
public final class NeverAgain {
    public static final int BAD = -1, STATE = -2, FULL = -3, NONE = -4;

    private static final int TOP_NUMBER = 16;
    private static final int TOP_MATTERS = 4;
    private static final int TOP_WEIGHT = 9;
    private static final int TOP_GAP = 20;
    private static final int MOST_DAYS = 60;
    private static final int MOST_ASKED = 5;
    private static final int MOST_WAITING = 4;
    private static final int LAST_WAIT_DAY = 4;
    private static final int MOST_YEAR = 12;
    private static final int MOST_MISSED = 10;
    private static final int TAPE_BYTES = 400;
    private static final int IMAGES = 2;
    private static final int SHEETS = 4;
    private static final int MOST_CELLS = 40;
    private static final int MOST_READ = 20;

    private static final int FIXED = 0;
    private static final int RANK = 1;
    private static final int BY_PAGES = 2;

    private static final int TORN_NULL = 1;
    private static final int TORN_INDEX = 2;
    private static final int TORN_CAST = 3;
    private static final int TORN_SIZE = 4;

    /** Above every sum of strokes, so that a search without an answer can be told from one with it. */
    private static final int NO_STROKES = 1000;

    private final TextReader tape;
    private final Almanac almanac;
    private final Planner planner;
    private final Delayer delayer;
    private final SetFinder sets;
    private final Told[] images;
    private final boolean[] kept;
    private final Sheet[] sheets;
    private final int[] year;
    private Told told;
    private Told draft;
    private int yearLength;
    private int textFault;
    private int readFault;

    public NeverAgain() {
        told = new Told();
        draft = new Told();
        tape = new TextReader(draft);
        almanac = new Almanac(told);
        planner = new Planner(almanac);
        delayer = new Delayer(almanac);
        sets = new SetFinder();
        year = new int[MOST_YEAR];
        kept = new boolean[IMAGES];
        images = new Told[IMAGES];
        for (int k = 0; k < IMAGES; k++) {
            images[k] = new Told();
        }
        sheets = new Sheet[SHEETS];
        for (int k = 0; k < SHEETS; k++) {
            sheets[k] = new Sheet();
        }
    }

    // ---- the text

    public int feed(long v) {
        return tape.append(v) ? tape.length : FULL;
    }

    public int end(int n) {
        int had = tape.length;
        if (n < 0 || n > had) {
            return BAD;
        }
        tape.length = n;
        return had;
    }

    public int text() {
        int lines = tape.readInto(draft);
        tape.length = 0;
        textFault = tape.fault;
        if (textFault != 0) {
            return -10 - tape.faultPlace;
        }
        Told old = told;
        told = draft;
        draft = old;
        yearLength = 0;
        forgetImages();
        return lines;
    }

    private void forgetImages() {
        for (int k = 0; k < IMAGES; k++) {
            kept[k] = false;
        }
    }

    public int fault() {
        return textFault;
    }

    public int rule(int what) {
        switch (what) {
            case 0:
                return told.most;
            case 1:
                return told.matters;
            case 2:
                return told.gap;
            case 3:
                return told.near;
            case 4:
                return told.book;
            case 5:
                return told.dayCount;
            default:
                return BAD;
        }
    }

    public int day(int t) {
        return t >= 0 && t < told.dayCount ? told.days[t] : BAD;
    }

    public int weight(int m) {
        return told.hasMatter(m) ? told.weights[m] : BAD;
    }

    public int page(int n) {
        return told.hasNumber(n) ? told.pages[n] : BAD;
    }

    // ---- what is changed

    public int gap(int v) {
        if (v < 0 || v > TOP_GAP) {
            return BAD;
        }
        int was = told.gap;
        told.gap = v;
        return was;
    }

    public int near(int v) {
        if (v < 0 || v > 1) {
            return BAD;
        }
        int was = told.near;
        told.near = v;
        return was;
    }

    public int book(int v) {
        if (v < FIXED || v > BY_PAGES) {
            return BAD;
        }
        int was = told.book;
        told.book = v;
        return was;
    }

    public int write(int n, int m) {
        if (!told.hasNumber(n) || (m != NONE && !told.hasMatter(m))) {
            return BAD;
        }
        int was = told.pages[n];
        told.pages[n] = m;
        return was;
    }

    public int undo(int n) {
        int were = told.dayCount;
        if (n < 0 || n > were) {
            return BAD;
        }
        told.dayCount = n;
        return were;
    }

    // ---- days

    public int may() {
        almanac.begin(told, 0);
        return almanac.freeBits();
    }

    public int means(int n) {
        if (!told.hasNumber(n)) {
            return BAD;
        }
        almanac.begin(told, 0);
        return almanac.meaning(n, almanac.freeBits());
    }

    public int cheap(int m) {
        if (!told.hasMatter(m)) {
            return BAD;
        }
        almanac.begin(told, 0);
        int n = almanac.leastFor(m);
        return n == 0 ? NONE : n;
    }

    public int ring(int n) {
        almanac.begin(told, 0);
        int bits = almanac.freeBits();
        int refused = refusal(n, bits);
        if (refused != 0) {
            return refused;
        }
        told.addDay(n);
        return almanac.meaning(n, bits);
    }

    /** Why a number can not be rung on the almanac's day, whose free numbers are told; 0: it can. */
    private int refusal(int n, int bits) {
        if (n != 0 && !told.hasNumber(n)) {
            return BAD;
        }
        if (n != 0 && (bits & (1 << n)) == 0) {
            return STATE;
        }
        return told.dayCount >= MOST_DAYS ? FULL : 0;
    }

    public int holds() {
        almanac.begin(told, 0);
        for (int followed = 0; followed <= MOST_DAYS; followed++) {
            int least = almanac.leastFree();
            if (least == 0) {
                return followed;
            }
            almanac.pass(least);
        }
        return MOST_DAYS + 1;
    }

    // ---- a year

    public int tell(int n) {
        if (n != 0 && !told.hasNumber(n)) {
            return BAD;
        }
        if (yearLength >= MOST_YEAR) {
            return FULL;
        }
        year[yearLength] = n;
        yearLength++;
        return yearLength;
    }

    public int cut(int n) {
        int were = yearLength;
        if (n < 0 || n > were) {
            return BAD;
        }
        yearLength = n;
        return were;
    }

    public int judge(int what) {
        if (what < 0 || what > 1) {
            return BAD;
        }
        almanac.begin(told, 0);
        for (int i = 0; i < yearLength && i < MOST_YEAR; i++) {
            int n = year[i];
            int bits = almanac.freeBits();
            boolean free = n == 0 || (bits & (1 << n)) != 0;
            if (!free) {
                return what == 0 ? i : 0;
            }
            if (n != 0 && almanac.meaning(n, bits) == NONE) {
                return what == 0 ? i : 1;
            }
            almanac.pass(n);
        }
        return NONE;
    }

    // ---- plans

    public int ask(int m) {
        if (!told.hasMatter(m)) {
            return BAD;
        }
        return told.addAsked(m) ? told.askedCount : FULL;
    }

    public int drop(int n) {
        int were = told.askedCount;
        if (n < 0 || n > were) {
            return BAD;
        }
        told.askedCount = n;
        return were;
    }

    public int plan(int what) {
        if (!asksForPlan(what)) {
            return BAD;
        }
        almanac.begin(told, 0);
        planner.takeAsked(told);
        planner.findCheapest();
        return planner.answer(what);
    }

    public int byRule(int what) {
        if (!asksForPlan(what)) {
            return BAD;
        }
        almanac.begin(told, 0);
        planner.takeAsked(told);
        planner.followRule();
        return planner.answer(what);
    }

    private static boolean asksForPlan(int what) {
        return what == 0 || (what >= 10 && what < 10 + MOST_ASKED);
    }

    public int worst(int n, int what) {
        if (n < 1 || n > 3 || what < 0 || what > 1) {
            return BAD;
        }
        almanac.begin(told, 0);
        int rows = 1 << (2 * n);
        int most = NONE;
        int row = NONE;
        for (int code = 0; code < rows; code++) {
            int more = planner.takeRow(told, code, n) ? planner.ruleAbovePlan() : NONE;
            if (more > most) {
                most = more;
                row = code;
            }
        }
        return what == 0 ? most : row;
    }

    public long mean(int n, int what) {
        if (n < 1 || n > 4 || what < 0 || what > 1) {
            return BAD;
        }
        almanac.begin(told, 0);
        long whole = planner.weightOfRows(told, n);
        long strokes = planner.strokesOfRows(told, n);
        long divisor = greatestDivisor(strokes, whole);
        if (divisor < 1) {
            return BAD;
        }
        return what == 0 ? strokes / divisor : whole / divisor;
    }

    private static long greatestDivisor(long a, long b) {
        long high = a;
        long low = b;
        // Euclid's steps on longs are fewer than a hundred.
        for (int step = 0; step < 100 && low != 0; step++) {
            long rest = high % low;
            high = low;
            low = rest;
        }
        return high;
    }

    // ---- who missed days

    public int reads(int k, int n) {
        if (k < 0 || k > MOST_MISSED || !told.hasNumber(n)) {
            return BAD;
        }
        almanac.begin(told, k);
        return almanac.meaning(n, almanac.freeBits());
    }

    public int alike(int k) {
        if (k < 0 || k > MOST_MISSED) {
            return BAD;
        }
        almanac.begin(told, k);
        int hisBits = almanac.freeBits();
        almanac.begin(told, 0);
        int bits = almanac.freeBits();
        int same = 0;
        for (int n = 1; n <= told.most; n++) {
            int meant = almanac.meaning(n, bits);
            boolean meansSomething = (bits & (1 << n)) != 0 && meant != NONE;
            // A book is the same to him; days change what is free alone, and so what a rank is.
            if (meansSomething && almanac.meaning(n, hisBits) == meant) {
                same |= 1 << n;
            }
        }
        return same;
    }

    // ---- put off

    public int stay(int m, int until) {
        if (!told.hasMatter(m) || until < 0 || until > LAST_WAIT_DAY) {
            return BAD;
        }
        return told.addWaiting(m, until) ? told.waitCount : FULL;
    }

    public int serve() {
        int were = told.waitCount;
        told.waitCount = 0;
        return were;
    }

    public int putOff(int what) {
        boolean asksForDay = what >= 10 && what < 10 + MOST_WAITING;
        boolean asksForNumber = what >= 20 && what < 20 + MOST_WAITING;
        if (what != 0 && !asksForDay && !asksForNumber) {
            return BAD;
        }
        almanac.begin(told, 0);
        delayer.findCheapest(told);
        if (what == 0) {
            return delayer.allStrokes();
        }
        return asksForDay ? delayer.dayOf(what - 10) : delayer.numberOf(what - 20);
    }

    // ---- forgotten

    public int forgotten(int n, int strokes, int what) {
        if (n < 1 || n > 6 || strokes < 0 || strokes > 100 || what < 0 || what > 2) {
            return BAD;
        }
        sets.find(told, n, strokes);
        if (what == 0) {
            return sets.found;
        }
        if (sets.found == 0) {
            return NONE;
        }
        return what == 1 ? sets.first : sets.inAll;
    }

    // ---- images, sheets

    public int keep(int k) {
        if (k < 0 || k >= IMAGES) {
            return BAD;
        }
        int was = kept[k] ? 1 : 0;
        images[k].copyOf(told);
        kept[k] = true;
        return was;
    }

    public int back(int k) {
        if (k < 0 || k >= IMAGES) {
            return BAD;
        }
        if (!kept[k]) {
            return STATE;
        }
        told.copyOf(images[k]);
        return told.dayCount;
    }

    public int sheet(int k, int lane, int n) {
        if (k < 0 || k >= SHEETS || lane < 0 || lane > Sheet.INTS || n > MOST_CELLS) {
            return BAD;
        }
        if (n < 0) {
            return -10 - TORN_SIZE;
        }
        sheets[k].makeNew(lane, n);
        return 1;
    }

    public int lay(int k, int i, int v) {
        if (k < 0 || k >= SHEETS) {
            return BAD;
        }
        int found = sheets[k].faultAt(i);
        if (found != 0) {
            return -10 - found;
        }
        sheets[k].put(i, v);
        return 1;
    }

    public int read(int k, int lane, int f, int n) {
        if (k < 0 || k >= SHEETS || lane < 0 || lane > Sheet.INTS || n < 0 || n > MOST_READ) {
            return BAD;
        }
        Sheet from = sheets[k];
        int daysBefore = told.dayCount;
        int found = 0;
        almanac.begin(told, 0);
        int went = 0;
        for (int i = 0; i < n && found == 0; i++) {
            found = from.faultAs(lane, f + i);
            if (found == 0) {
                int number = from.cell(f + i);
                if (refusal(number, almanac.freeBits()) != 0) {
                    told.dayCount = daysBefore;
                    return -20 - i;
                }
                told.addDay(number);
                almanac.pass(number);
                went++;
            }
        }
        readFault = found;
        return went;
    }

    public int torn() {
        return readFault;
    }

    public int count(int what) {
        switch (what) {
            case 0:
                return yearLength;
            case 1:
                return told.askedCount;
            case 2:
                return told.waitCount;
            case 3:
                return (kept[0] ? 1 : 0) + (kept[1] ? 1 : 0);
            case 4:
                return tape.length;
            case 5:
                return sheets[0].isNothing() ? NONE : sheets[0].length;
            case 6:
                return told.allStrokes();
            default:
                return BAD;
        }
    }

    /** All that a text tells. */
    private static final class Told {
        final int[] weights = new int[TOP_MATTERS];
        final int[] pages = new int[TOP_NUMBER + 1];
        final int[] days = new int[MOST_DAYS];
        final int[] asked = new int[MOST_ASKED];
        final int[] waiting = new int[MOST_WAITING];
        final int[] until = new int[MOST_WAITING];
        int most;
        int matters;
        int gap;
        int near;
        int book;
        int dayCount;
        int askedCount;
        int waitCount;

        Told() {
            makeFirst();
        }

        /** What there is where no line tells otherwise. */
        void makeFirst() {
            most = 12;
            matters = 2;
            gap = 0;
            near = 0;
            book = FIXED;
            dayCount = 0;
            askedCount = 0;
            waitCount = 0;
            Arrays.fill(weights, 1);
            Arrays.fill(pages, NONE);
        }

        void copyOf(Told other) {
            most = other.most;
            matters = other.matters;
            gap = other.gap;
            near = other.near;
            book = other.book;
            dayCount = other.dayCount;
            askedCount = other.askedCount;
            waitCount = other.waitCount;
            System.arraycopy(other.weights, 0, weights, 0, TOP_MATTERS);
            System.arraycopy(other.pages, 0, pages, 0, TOP_NUMBER + 1);
            System.arraycopy(other.days, 0, days, 0, MOST_DAYS);
            System.arraycopy(other.asked, 0, asked, 0, MOST_ASKED);
            System.arraycopy(other.waiting, 0, waiting, 0, MOST_WAITING);
            System.arraycopy(other.until, 0, until, 0, MOST_WAITING);
        }

        boolean hasNumber(int n) {
            return n >= 1 && n <= most && n <= TOP_NUMBER;
        }

        boolean hasMatter(int m) {
            return m >= 0 && m < matters && m < TOP_MATTERS;
        }

        boolean addDay(int n) {
            if (dayCount >= MOST_DAYS) {
                return false;
            }
            days[dayCount] = n;
            dayCount++;
            return true;
        }

        boolean addAsked(int m) {
            if (askedCount >= MOST_ASKED) {
                return false;
            }
            asked[askedCount] = m;
            askedCount++;
            return true;
        }

        boolean addWaiting(int m, int lastDay) {
            if (waitCount >= MOST_WAITING) {
                return false;
            }
            waiting[waitCount] = m;
            until[waitCount] = lastDay;
            waitCount++;
            return true;
        }

        int allStrokes() {
            int sum = 0;
            for (int t = 0; t < dayCount && t < MOST_DAYS; t++) {
                sum += days[t];
            }
            return sum;
        }

        int rungBits() {
            int bits = 0;
            for (int t = 0; t < dayCount && t < MOST_DAYS; t++) {
                bits |= 1 << days[t];
            }
            return bits;
        }

        /** Whether every number and matter that a text names is there, once all lines are read. */
        boolean namesWhatIs() {
            for (int n = 1; n <= TOP_NUMBER; n++) {
                if (pages[n] != NONE && !(hasNumber(n) && hasMatter(pages[n]))) {
                    return false;
                }
            }
            for (int t = 0; t < dayCount && t < MOST_DAYS; t++) {
                if (days[t] > most) {
                    return false;
                }
            }
            for (int i = 0; i < askedCount && i < MOST_ASKED; i++) {
                if (!hasMatter(asked[i])) {
                    return false;
                }
            }
            for (int i = 0; i < waitCount && i < MOST_WAITING; i++) {
                if (!hasMatter(waiting[i])) {
                    return false;
                }
            }
            return true;
        }
    }

    /** Days that went and days that are tried behind them; a tried day can be taken back. */
    private static final class Almanac {
        /** 60 days, and 61 more that holds() tries. */
        private static final int LONGEST = 128;
        private static final int NEVER = -1;

        private final int[] rung = new int[LONGEST];
        private final int[] lastBefore = new int[LONGEST];
        private final int[] last = new int[TOP_NUMBER + 1];
        private Told told;
        private int today;

        Almanac(Told first) {
            told = first;
        }

        /** The days as they went, but for the latest ones that were missed: these are silent. */
        void begin(Told of, int missed) {
            told = of;
            today = 0;
            Arrays.fill(last, NEVER);
            for (int t = 0; t < of.dayCount && t < MOST_DAYS; t++) {
                pass(t < of.dayCount - missed ? of.days[t] : 0);
            }
        }

        void pass(int n) {
            if (today >= LONGEST || n < 0 || n > TOP_NUMBER) {
                return;
            }
            rung[today] = n;
            lastBefore[today] = last[n];
            last[n] = today;
            today++;
        }

        void takeBack() {
            if (today <= 0) {
                return;
            }
            today--;
            last[rung[today]] = lastBefore[today];
        }

        /** The numbers that may be rung on this day. */
        int freeBits() {
            int bits = bitsByGap(today);
            int yesterday = today > 0 ? rung[today - 1] : 0;
            if (told.near == 1 && yesterday > 0) {
                bits &= ~((1 << (yesterday - 1)) | (1 << (yesterday + 1)));
            }
            return bits;
        }

        /** The numbers that the gap lets be rung on a day, as far as days are known. */
        private int bitsByGap(int day) {
            int bits = 0;
            for (int n = 1; n <= told.most && n <= TOP_NUMBER; n++) {
                if (last[n] == NEVER || (told.gap > 0 && day - last[n] >= told.gap)) {
                    bits |= 1 << n;
                }
            }
            return bits;
        }

        /** 0: none may be rung. */
        int leastFree() {
            int bits = freeBits();
            for (int n = 1; n <= told.most; n++) {
                if ((bits & (1 << n)) != 0) {
                    return n;
                }
            }
            return 0;
        }

        int meaning(int n, int bits) {
            if (!told.hasNumber(n) || told.matters < 1) {
                return NONE;
            }
            if (told.book == FIXED) {
                return (n - 1) % told.matters;
            }
            if (told.book == BY_PAGES) {
                return told.pages[n];
            }
            boolean free = (bits & (1 << n)) != 0;
            return free ? Integer.bitCount(bits & ((1 << n) - 1)) % told.matters : NONE;
        }

        boolean tells(int n, int m, int bits) {
            return (bits & (1 << n)) != 0 && meaning(n, bits) == m;
        }

        /** The rule: the least number for a matter on this day; 0: there is none. */
        int leastFor(int m) {
            int bits = freeBits();
            for (int n = 1; n <= told.most; n++) {
                if (tells(n, m, bits)) {
                    return n;
                }
            }
            return 0;
        }

        /**
         * No number below this one tells the matter on this day or on the four behind it:
         * it cuts the searches short. The number of a rank only rises as fewer numbers are free.
         */
        int floorFor(int m) {
            int bits = bitsByGap(today + LAST_WAIT_DAY);
            for (int n = 1; n <= told.most; n++) {
                if (tells(n, m, bits)) {
                    return n;
                }
            }
            return NO_STROKES;
        }

        int mostNumber() {
            return told.most;
        }
    }

    /** Rows of matters, one on each day from today on. */
    private static final class Planner {
        private final Almanac almanac;
        private final int[] row = new int[MOST_ASKED];
        private final int[] floorFrom = new int[MOST_ASKED + 1];
        private final int[] trial = new int[MOST_ASKED];
        private final int[] best = new int[MOST_ASKED];
        private int length;
        private int strokes;

        Planner(Almanac days) {
            almanac = days;
        }

        void takeAsked(Told told) {
            length = Math.min(told.askedCount, MOST_ASKED);
            for (int i = 0; i < length; i++) {
                row[i] = told.asked[i];
            }
        }

        /** The row that a number to the base 4 tells; false: it names a matter that is not there. */
        boolean takeRow(Told told, int code, int n) {
            length = Math.min(n, MOST_ASKED);
            boolean allThere = true;
            for (int i = 0; i < length; i++) {
                row[i] = (code >> (2 * (length - 1 - i))) & 3;
                allThere = allThere && told.hasMatter(row[i]);
            }
            return allThere;
        }

        void findCheapest() {
            strokes = NO_STROKES;
            floorFrom[length] = 0;
            for (int i = length - 1; i >= 0; i--) {
                floorFrom[i] = floorFrom[i + 1] + almanac.floorFor(row[i]);
            }
            searchFrom(this, 0, 0);
        }

        /** Numbers go up, and only fewer strokes are better: so of several plans the first stays. */
        private static void searchFrom(Planner p, int i, int sum) {
            if (i >= p.length || i >= MOST_ASKED) {
                p.strokes = sum;
                System.arraycopy(p.trial, 0, p.best, 0, MOST_ASKED);
                return;
            }
            int bits = p.almanac.freeBits();
            int most = p.almanac.mostNumber();
            for (int n = 1; n <= most && sum + n + p.floorFrom[i + 1] < p.strokes; n++) {
                if (p.almanac.tells(n, p.row[i], bits)) {
                    p.trial[i] = n;
                    p.almanac.pass(n);
                    searchFrom(p, i + 1, sum + n);
                    p.almanac.takeBack();
                }
            }
        }

        void followRule() {
            int sum = 0;
            int passed = 0;
            boolean goes = true;
            for (int i = 0; i < length && goes; i++) {
                int n = almanac.leastFor(row[i]);
                goes = n > 0;
                if (goes) {
                    best[i] = n;
                    sum += n;
                    almanac.pass(n);
                    passed++;
                }
            }
            for (int i = 0; i < passed; i++) {
                almanac.takeBack();
            }
            strokes = goes ? sum : NO_STROKES;
        }

        /** How many strokes more the rule has for the row; NONE: it does not go by it. */
        int ruleAbovePlan() {
            followRule();
            int byRule = strokes;
            if (byRule >= NO_STROKES) {
                return NONE;
            }
            findCheapest();
            return byRule - strokes;
        }

        int answer(int what) {
            if (strokes >= NO_STROKES) {
                return NONE;
            }
            if (what == 0) {
                return strokes;
            }
            int i = what - 10;
            return i >= 0 && i < length ? best[i] : NONE;
        }

        long weightOfRows(Told told, int days) {
            long sum = 0;
            for (int m = 0; m < told.matters && m < TOP_MATTERS; m++) {
                sum += told.weights[m];
            }
            long product = 1;
            for (int i = 0; i < days; i++) {
                product *= sum;
            }
            return product;
        }

        long strokesOfRows(Told told, int days) {
            return strokesFrom(this, told, days);
        }

        /** The strokes by the rule of all rows of so many days, each as often as its weights say. */
        private static long strokesFrom(Planner p, Told told, int left) {
            if (left <= 0) {
                return 0;
            }
            long rowsBehind = p.weightOfRows(told, left - 1);
            long sum = 0;
            for (int m = 0; m < told.matters && m < TOP_MATTERS; m++) {
                int n = p.almanac.leastFor(m);
                long here = n > 0 ? n : told.most + 1;
                p.almanac.pass(n);
                long behind = strokesFrom(p, told, left - 1);
                p.almanac.takeBack();
                sum += told.weights[m] * (here * rowsBehind + behind);
            }
            return sum;
        }
    }

    /** Matters that wait, each up to its last day. */
    private static final class Delayer {
        private final Almanac almanac;
        private final int[] floors = new int[MOST_WAITING];
        private final int[] trialDay = new int[MOST_WAITING];
        private final int[] trialNumber = new int[MOST_WAITING];
        private final int[] bestDay = new int[MOST_WAITING];
        private final int[] bestNumber = new int[MOST_WAITING];
        private int length;
        private int strokes;

        Delayer(Almanac days) {
            almanac = days;
        }

        void findCheapest(Told told) {
            length = Math.min(told.waitCount, MOST_WAITING);
            strokes = NO_STROKES;
            for (int i = 0; i < length; i++) {
                floors[i] = almanac.floorFor(told.waiting[i]);
            }
            searchFrom(this, told, 0, (1 << length) - 1, 0);
        }

        /** The days are tried in the order of the document: so of several ways the first stays. */
        private static void searchFrom(Delayer d, Told told, int day, int left, int sum) {
            if (sum + d.floorOf(left) >= d.strokes) {
                return;
            }
            if (left == 0) {
                d.takeTrial(sum);
                return;
            }
            if (day > LAST_WAIT_DAY || d.someIsLate(told, day, left)) {
                return;
            }
            for (int i = 0; i < d.length; i++) {
                if ((left & (1 << i)) != 0 && !d.isBehindItsLike(told, i, left)) {
                    tryNumbers(d, told, day, left, sum, i);
                }
            }
            d.almanac.pass(0);
            searchFrom(d, told, day + 1, left, sum);
            d.almanac.takeBack();
        }

        private static void tryNumbers(Delayer d, Told told, int day, int left, int sum, int i) {
            int bits = d.almanac.freeBits();
            int others = left & ~(1 << i);
            int atLeast = sum + d.floorOf(others);
            for (int n = 1; n <= told.most && atLeast + n < d.strokes; n++) {
                if (d.almanac.tells(n, told.waiting[i], bits)) {
                    d.trialDay[i] = day;
                    d.trialNumber[i] = n;
                    d.almanac.pass(n);
                    searchFrom(d, told, day + 1, others, sum + n);
                    d.almanac.takeBack();
                }
            }
        }

        /**
         * Whether an earlier one waits for the same matter, and not longer: were this one told
         * ahead of it, both could change places, and that way comes first.
         */
        private boolean isBehindItsLike(Told told, int i, int left) {
            for (int j = 0; j < i; j++) {
                boolean like = told.waiting[j] == told.waiting[i] && told.until[j] <= told.until[i];
                if (like && (left & (1 << j)) != 0) {
                    return true;
                }
            }
            return false;
        }

        private int floorOf(int left) {
            int sum = 0;
            for (int i = 0; i < length; i++) {
                sum += (left & (1 << i)) != 0 ? floors[i] : 0;
            }
            return sum;
        }

        private boolean someIsLate(Told told, int day, int left) {
            for (int i = 0; i < length; i++) {
                if ((left & (1 << i)) != 0 && told.until[i] < day) {
                    return true;
                }
            }
            return false;
        }

        private void takeTrial(int sum) {
            strokes = sum;
            System.arraycopy(trialDay, 0, bestDay, 0, MOST_WAITING);
            System.arraycopy(trialNumber, 0, bestNumber, 0, MOST_WAITING);
        }

        int allStrokes() {
            return strokes < NO_STROKES ? strokes : NONE;
        }

        int dayOf(int i) {
            return has(i) ? bestDay[i] : NONE;
        }

        int numberOf(int i) {
            return has(i) ? bestNumber[i] : NONE;
        }

        private boolean has(int i) {
            return strokes < NO_STROKES && i >= 0 && i < length;
        }
    }

    /** Sets of numbers that were never rung, by what they are together. */
    private static final class SetFinder {
        private int most;
        private int rungBits;
        int found;
        int first;
        int inAll;

        void find(Told told, int n, int strokes) {
            most = told.most;
            rungBits = told.rungBits();
            found = 0;
            first = 0;
            inAll = -1;
            pickFrom(this, 1, n, strokes, 0);
        }

        private static void pickFrom(SetFinder s, int from, int left, int strokes, int bits) {
            if (left <= 0) {
                if (strokes == 0) {
                    s.take(bits);
                }
                return;
            }
            // All that are picked behind n are above it, and none is above the most.
            int least = Math.max(from, strokes - (left - 1) * s.most);
            for (int n = least; n <= s.most && n * left <= strokes; n++) {
                if ((s.rungBits & (1 << n)) == 0) {
                    pickFrom(s, n + 1, left - 1, strokes - n, bits | (1 << n));
                }
            }
        }

        private void take(int bits) {
            if (found == 0) {
                first = bits;
            }
            found++;
            inAll &= bits;
        }
    }

    /** A row of cells of one lane, or nothing. */
    private static final class Sheet {
        static final int BYTES = 0;
        static final int SHORTS = 1;
        static final int INTS = 2;
        private static final int NOTHING = -1;

        private final int[] cells = new int[MOST_CELLS];
        private int lane = NOTHING;
        int length;

        boolean isNothing() {
            return lane == NOTHING;
        }

        void makeNew(int ofLane, int n) {
            lane = ofLane;
            length = Math.max(0, Math.min(n, MOST_CELLS));
            Arrays.fill(cells, 0);
        }

        /** The fault of one cell read as of a lane: nothing is of each lane, so NULL is ahead of CAST. */
        int faultAs(int otherLane, int i) {
            return lane != NOTHING && lane != otherLane ? TORN_CAST : faultAt(i);
        }

        int faultAt(int i) {
            if (lane == NOTHING) {
                return TORN_NULL;
            }
            return i < 0 || i >= length ? TORN_INDEX : 0;
        }

        int cell(int i) {
            return i >= 0 && i < length && i < MOST_CELLS ? cells[i] : 0;
        }

        void put(int i, int v) {
            if (i < 0 || i >= length || i >= MOST_CELLS) {
                return;
            }
            if (lane == BYTES) {
                cells[i] = (byte) v;
            } else if (lane == SHORTS) {
                cells[i] = (short) v;
            } else {
                cells[i] = v;
            }
        }
    }

    /** The tape, and how its text is read. */
    private static final class TextReader {
        private static final int NAME = 0;
        private static final int FIGURES = 1;
        private static final int STOP = 2;
        private static final int END = 3;

        private static final int NO_TOKEN = 1;
        private static final int OUT_OF_PLACE = 2;
        private static final int OUT_OF_BOUNDS = 3;
        private static final int TWICE = 4;
        private static final int TOO_MANY = 5;
        private static final int NOT_THERE = 6;

        private static final int SEEN_MOST = 1;
        private static final int SEEN_MATTERS = 2;
        private static final int SEEN_GAP = 4;
        private static final int SEEN_NEAR = 8;
        private static final int SEEN_BOOK = 16;

        private final byte[] bytes = new byte[TAPE_BYTES];
        int length;
        int fault;
        int faultPlace;
        private Told draft;
        private int seen;
        private int place;
        private int kind;
        private int start;
        private int number;

        TextReader(Told into) {
            draft = into;
        }

        boolean append(long v) {
            if (length < 0 || length + 8 > TAPE_BYTES) {
                return false;
            }
            for (int i = 0; i < 8; i++) {
                bytes[length + i] = (byte) (v >>> (56 - 8 * i));
            }
            length += 8;
            return true;
        }

        /** How many lines there are; of use only where no fault is found. */
        int readInto(Told into) {
            draft = into;
            draft.makeFirst();
            fault = 0;
            faultPlace = 0;
            seen = 0;
            place = 0;
            int lines = 0;
            while (lines <= TAPE_BYTES && nextToken() && kind != END && line()) {
                lines++;
            }
            if (fault == 0 && !draft.namesWhatIs()) {
                fail(NOT_THERE, length);
            }
            return lines;
        }

        /** Always false, so that a reader can end with it. */
        private boolean fail(int what, int where) {
            fault = what;
            faultPlace = where;
            return false;
        }

        private boolean line() {
            if (kind != NAME) {
                return fail(OUT_OF_PLACE, start);
            }
            if (isName("most")) {
                return mostLine();
            }
            if (isName("matters")) {
                return mattersLine();
            }
            if (isName("gap")) {
                return gapLine();
            }
            if (isName("near")) {
                return nearLine();
            }
            if (isName("book")) {
                return bookLine();
            }
            if (isName("page")) {
                return pageLine();
            }
            if (isName("rung")) {
                return rungLine();
            }
            if (isName("ask")) {
                return askLine();
            }
            if (isName("wait")) {
                return waitLine();
            }
            return fail(OUT_OF_PLACE, start);
        }

        /** A name that may stand once has been taken. */
        private boolean once(int which) {
            if ((seen & which) != 0) {
                return fail(TWICE, start);
            }
            seen |= which;
            return true;
        }

        private boolean mostLine() {
            if (!once(SEEN_MOST) || !figures(4, TOP_NUMBER)) {
                return false;
            }
            draft.most = number;
            return stop();
        }

        private boolean mattersLine() {
            if (!once(SEEN_MATTERS) || !figures(1, TOP_MATTERS)) {
                return false;
            }
            draft.matters = number;
            int given = 0;
            while (given <= TOP_MATTERS && moreFigures(1, TOP_WEIGHT)) {
                if (given >= draft.matters || given >= TOP_MATTERS) {
                    return fail(TOO_MANY, start);
                }
                draft.weights[given] = number;
                given++;
            }
            return fault == 0;
        }

        private boolean gapLine() {
            if (!once(SEEN_GAP) || !figures(0, TOP_GAP)) {
                return false;
            }
            draft.gap = number;
            return stop();
        }

        private boolean nearLine() {
            if (!once(SEEN_NEAR)) {
                return false;
            }
            draft.near = 1;
            return stop();
        }

        private boolean bookLine() {
            if (!once(SEEN_BOOK) || !nextToken()) {
                return false;
            }
            if (kind == NAME && isName("fixed")) {
                draft.book = FIXED;
            } else if (kind == NAME && isName("rank")) {
                draft.book = RANK;
            } else if (kind == NAME && isName("told")) {
                draft.book = BY_PAGES;
            } else {
                return fail(OUT_OF_PLACE, start);
            }
            return stop();
        }

        private boolean pageLine() {
            if (!figures(1, TOP_NUMBER)) {
                return false;
            }
            int n = number;
            if (draft.pages[n] != NONE) {
                return fail(TWICE, start);
            }
            if (!figures(0, TOP_MATTERS - 1)) {
                return false;
            }
            draft.pages[n] = number;
            return stop();
        }

        private boolean rungLine() {
            boolean more = figures(0, TOP_NUMBER);
            for (int i = 0; i <= MOST_DAYS && more; i++) {
                if (!draft.addDay(number)) {
                    return fail(TOO_MANY, start);
                }
                more = moreFigures(0, TOP_NUMBER);
            }
            return fault == 0;
        }

        private boolean askLine() {
            boolean more = figures(0, TOP_MATTERS - 1);
            for (int i = 0; i <= MOST_ASKED && more; i++) {
                if (!draft.addAsked(number)) {
                    return fail(TOO_MANY, start);
                }
                more = moreFigures(0, TOP_MATTERS - 1);
            }
            return fault == 0;
        }

        private boolean waitLine() {
            if (draft.waitCount >= MOST_WAITING) {
                return fail(TOO_MANY, start);
            }
            if (!figures(0, TOP_MATTERS - 1)) {
                return false;
            }
            int m = number;
            if (!figures(0, LAST_WAIT_DAY)) {
                return false;
            }
            draft.addWaiting(m, number);
            return stop();
        }

        private boolean stop() {
            if (!nextToken()) {
                return false;
            }
            return kind == STOP || fail(OUT_OF_PLACE, start);
        }

        private boolean figures(int low, int high) {
            if (!nextToken()) {
                return false;
            }
            return kind == FIGURES ? inBounds(low, high) : fail(OUT_OF_PLACE, start);
        }

        /** Figures, or what ends the line: false without a fault is the end of the line. */
        private boolean moreFigures(int low, int high) {
            if (!nextToken() || kind == STOP) {
                return false;
            }
            return kind == FIGURES ? inBounds(low, high) : fail(OUT_OF_PLACE, start);
        }

        private boolean inBounds(int low, int high) {
            return number >= low && number <= high || fail(OUT_OF_BOUNDS, start);
        }

        private boolean nextToken() {
            while (place < length && byteAt(place) == ' ') {
                place++;
            }
            start = place;
            if (place >= length) {
                kind = END;
                return true;
            }
            if (byteAt(place) == ';') {
                kind = STOP;
                place++;
                return true;
            }
            kind = NAME;
            while (place < length && isLetter(byteAt(place))) {
                place++;
            }
            if (place > start) {
                return true;
            }
            kind = FIGURES;
            number = 0;
            while (place < length && place - start < 3 && isFigure(byteAt(place))) {
                number = number * 10 + byteAt(place) - '0';
                place++;
            }
            boolean oneOrTwo = place - start == 1 || place - start == 2;
            return oneOrTwo || fail(NO_TOKEN, start);
        }

        private boolean isName(String name) {
            if (place - start != name.length()) {
                return false;
            }
            for (int i = 0; i < name.length(); i++) {
                if (byteAt(start + i) != name.charAt(i)) {
                    return false;
                }
            }
            return true;
        }

        /** 0, which begins no token, where there is no byte. */
        private int byteAt(int i) {
            return i >= 0 && i < length && i < TAPE_BYTES ? bytes[i] : 0;
        }

        private static boolean isFigure(int b) {
            return b >= '0' && b <= '9';
        }

        private static boolean isLetter(int b) {
            return b >= 'a' && b <= 'z';
        }
    }
}
