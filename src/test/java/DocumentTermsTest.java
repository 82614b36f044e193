import java.io.IOException;
import java.lang.reflect.Method;
import java.lang.reflect.Modifier;
import java.math.BigInteger;
import java.nio.file.Files;
import java.nio.file.Path;
import java.util.List;
import java.util.Set;
import java.util.TreeSet;
import java.util.function.Supplier;
import java.util.function.ToLongFunction;
import java.util.regex.Matcher;
import java.util.regex.Pattern;

/**
 * The document from its first line to the end of its terms, passage by passage: each is quoted,
 * and behind it stands what would not be so if it did not hold. DocumentPromisesTest has the rest.
 */
public final class DocumentTermsTest extends Bell {
    private static final Checks C = new Checks("DocumentTermsTest");
    private static Document doc;

    private static void says(String passage) {
        doc.says(passage);
    }

    private static void due(String call, long want, long got) {
        doc.due(call, want, got);
    }

    /** A text is refused, with this fault at this place. */
    private static void faulty(String text, int kind, int place) {
        NeverAgain x = new NeverAgain();
        due("text() of " + text, -10 - place, tell(x, text));
        due("fault() of " + text, kind, x.fault());
    }

    private static void taken(String text, int lines) {
        NeverAgain x = new NeverAgain();
        due("text() of " + text, lines, tell(x, text));
        due("fault() of " + text, 0, x.fault());
    }

    // ---- what it is, the public face

    private static void whatItIs() {
        // A summary: what it names is said again, and tested, below.
        says("# NeverAgain ## What it is Never as often as on any day before: a bell that by its charter may not ring a "
            + "number of strokes again, or not for so many days, or not next to yesterday's; matters that are told by "
            + "numbers, by a fixed book, by rank among those that may be rung, by a told book; days rung, a told year "
            + "judged, the first number that may not be; the cheapest numbers for told matters, a rule that takes the "
            + "cheapest each day, its worst beside one who knew all, its mean by weights; who missed some days and reads "
            + "otherwise; matters put off for a cheaper day; forgotten numbers by how many strokes they were together; "
            + "images; all told in a text, days read from sheets whose faults the machine finds.");
        says("An object is used for at most 512 calls after it has been made; what later calls answer is free.");
        NeverAgain x = new NeverAgain();
        for (int call = 1; call < 511; call += 2) {
            due("call " + call, 0, x.ring(7));
            due("call " + (call + 1), 1, x.undo(0));
        }
        due("call 511", 0, x.ring(7));
        due("call 512", STATE, x.ring(7));
    }

    private static void face() {
        String face = "public final class NeverAgain { public static final int BAD = -1, STATE = -2, FULL = -3, NONE = -4; "
            + "public NeverAgain(); public int feed(long v); public int end(int n); public int text(); public int fault(); "
            + "public int rule(int what); public int day(int t); public int weight(int m); public int page(int n); "
            + "public int gap(int v); public int near(int v); public int book(int v); public int write(int n, int m); "
            + "public int undo(int n); public int may(); public int means(int n); public int cheap(int m); "
            + "public int ring(int n); public int holds(); public int tell(int n); public int cut(int n); "
            + "public int judge(int what); public int ask(int m); public int drop(int n); public int plan(int what); "
            + "public int byRule(int what); public int worst(int n, int what); public long mean(int n, int what); "
            + "public int reads(int k, int n); public int alike(int k); public int stay(int m, int until); "
            + "public int serve(); public int putOff(int what); public int forgotten(int n, int strokes, int what); "
            + "public int keep(int k); public int back(int k); public int sheet(int k, int lane, int n); "
            + "public int lay(int k, int i, int v); public int read(int k, int lane, int f, int n); public int torn(); "
            + "public int count(int what); }";
        says("## The public face " + face);
        Set<String> wanted = new TreeSet<>();
        Matcher calls = Pattern.compile("public (int|long) (\\w+)\\(([^)]*)\\)").matcher(face);
        while (calls.find()) {
            wanted.add(calls.group(1) + " " + calls.group(2) + "(" + calls.group(3).replaceAll("(int|long) \\w+", "$1").replace(" ", "") + ")");
        }
        due("calls in the face", 40, wanted.size());
        Set<String> found = new TreeSet<>();
        for (Method m : NeverAgain.class.getDeclaredMethods()) {
            if (Modifier.isPublic(m.getModifiers())) {
                String all = m.toString().replaceAll("public (final )?", "").replace("NeverAgain.", "");
                found.add(all);
            }
        }
        doc.due("the calls are " + found, found.equals(wanted));
        due("BAD", -1, NeverAgain.BAD);
        due("STATE", -2, NeverAgain.STATE);
        due("FULL", -3, NeverAgain.FULL);
        due("NONE", -4, NeverAgain.NONE);
    }

    // ---- answers

    private static void answers() {
        says("## Terms Answers: BAD -1 (a number is not as told, there is no such NUMBER, MATTER, IMAGE, SHEET), "
            + "STATE -2 (as told), FULL -3, NONE -4 (there is none), the first that fits;");
        NeverAgain x = new NeverAgain();
        due("a number that is not as told", BAD, x.gap(21));
        due("no such NUMBER", BAD, x.means(13));
        due("no such MATTER", BAD, x.cheap(2));
        due("no such IMAGE", BAD, x.keep(2));
        due("no such SHEET", BAD, x.lay(4, 0, 0));
        x = told("most 4;rung 1" + " 0".repeat(59) + ";ask 0 0 0 0 0;wait 0 0;wait 0 0;wait 0 0;wait 0 0;");
        for (int i = 0; i < 12; i++) {
            x.tell(0);
        }
        due("BAD ahead of STATE and FULL", BAD, x.ring(5));
        due("STATE ahead of FULL", STATE, x.ring(1));
        due("FULL", FULL, x.ring(2));
        due("BAD ahead of a FULL year", BAD, x.tell(5));
        due("FULL year", FULL, x.tell(4));
        due("BAD ahead of FULL, asked", BAD, x.ask(2));
        due("FULL, asked", FULL, x.ask(1));
        due("BAD matter ahead of FULL, waiting", BAD, x.stay(2, 0));
        due("BAD day ahead of FULL, waiting", BAD, x.stay(0, 5));
        due("FULL, waiting", FULL, x.stay(1, 4));
        due("BAD ahead of NONE, plan", BAD, x.plan(1));
        due("NONE, plan", NONE, x.plan(0));
        due("BAD ahead of NONE, byRule", BAD, x.byRule(15));
        due("NONE, byRule", NONE, x.byRule(14));
        due("BAD ahead of NONE, putOff", BAD, x.putOff(14));
        due("NONE, putOff", NONE, x.putOff(13));
        x = told("most 4;book rank;rung 1 2 3 4;");
        due("BAD ahead of NONE, worst", BAD, x.worst(1, 2));
        due("NONE, worst", NONE, x.worst(1, 1));
        due("BAD k ahead of NONE, reads", BAD, x.reads(11, 1));
        due("BAD number ahead of NONE, reads", BAD, x.reads(0, 5));
        due("NONE, reads", NONE, x.reads(0, 4));
        due("BAD ahead of NONE, forgotten", BAD, x.forgotten(7, 28, 1));
        due("NONE, forgotten", NONE, x.forgotten(1, 1, 1));
        due("BAD ahead of STATE, back", BAD, x.back(2));
        due("STATE, back", STATE, x.back(1));
        due("BAD ahead of SIZE, sheet", BAD, x.sheet(0, 3, -1));
        due("SIZE, sheet", -14, x.sheet(0, 2, -1));
        due("BAD ahead of NULL, lay", BAD, x.lay(4, 0, 0));
        due("NULL, lay", -11, x.lay(3, 0, 0));
    }

    private static NeverAgain someOfAll() {
        NeverAgain x = told("most 4;matters 2 3;gap 3;near;book told;page 1 1;rung 1 4" + " 0".repeat(56) + " 2 0;"
            + "ask 1 0 1 0 1;wait 1 4;wait 0 0;wait 1 1;wait 0 2;");
        x.keep(0);
        for (int i = 0; i < 12; i++) {
            x.tell(i % 5);
        }
        x.sheet(0, 1, 2);
        x.lay(0, 1, 3);
        x.read(0, 1, 2, 1);
        tell(x, "gap 99;");
        for (int i = 0; i < 50; i++) {
            x.feed(0x2020202020202020L);
        }
        return x;
    }

    private static void nothingChanges(String call, long want, Supplier<NeverAgain> make, ToLongFunction<NeverAgain> made) {
        for (int part = 0; part < Probe.PARTS; part++) {
            NeverAgain x = make.get();
            due(call, want, made.applyAsLong(x));
            List<Long> held = Probe.of(x, part);
            doc.due(call + " changes nothing, part " + part, held.equals(Probe.of(make.get(), part)));
        }
    }

    private static void refused(String call, long want, ToLongFunction<NeverAgain> made) {
        nothingChanges(call, want, DocumentTermsTest::someOfAll, made);
    }

    private static void refusals() {
        says("what is refused changes nothing (but THE TAPE, as told).");
        refused("feed", FULL, x -> x.feed(0));
        refused("end", BAD, x -> x.end(401));
        refused("gap", BAD, x -> x.gap(21));
        refused("near", BAD, x -> x.near(2));
        refused("book", BAD, x -> x.book(3));
        refused("write", BAD, x -> x.write(1, 2));
        refused("undo", BAD, x -> x.undo(61));
        refused("ring BAD", BAD, x -> x.ring(5));
        refused("ring STATE", STATE, x -> x.ring(2));
        refused("ring FULL", FULL, x -> x.ring(1));
        refused("tell BAD", BAD, x -> x.tell(5));
        refused("tell FULL", FULL, x -> x.tell(1));
        refused("cut", BAD, x -> x.cut(13));
        refused("ask BAD", BAD, x -> x.ask(2));
        refused("ask FULL", FULL, x -> x.ask(0));
        refused("drop", BAD, x -> x.drop(6));
        refused("stay BAD", BAD, x -> x.stay(0, 5));
        refused("stay FULL", FULL, x -> x.stay(0, 4));
        refused("keep", BAD, x -> x.keep(2));
        refused("back BAD", BAD, x -> x.back(2));
        refused("back STATE", STATE, x -> x.back(1));
        refused("sheet BAD", BAD, x -> x.sheet(0, 1, 41));
        refused("sheet SIZE", -14, x -> x.sheet(0, 1, -1));
        refused("lay BAD", BAD, x -> x.lay(4, 0, 1));
        refused("lay NULL", -11, x -> x.lay(1, 0, 1));
        refused("lay INDEX", -12, x -> x.lay(0, 2, 1));
        refused("read BAD", BAD, x -> x.read(0, 1, 0, 21));
        refused("read refused by ring()", -20, x -> x.read(0, 1, 0, 2));
        Supplier<NeverAgain> room = () -> {
            NeverAgain x = someOfAll();
            x.undo(57);
            x.cut(3);
            x.end(0);
            return x;
        };
        nothingChanges("read, its second DAY refused", -21, room, x -> {
            x.lay(0, 0, 3);
            int answer = x.read(0, 1, 0, 2);
            x.lay(0, 0, 0);
            return answer;
        });
        Supplier<NeverAgain> withFault = () -> {
            NeverAgain x = room.get();
            tell(x, "near;foo");
            return x;
        };
        nothingChanges("a text with a FAULT but for THE TAPE", 0, withFault, x -> {
            feedText(x, "most 9;foo");
            x.text();
            feedText(x, "near;foo");
            return x.text() == -15 && x.fault() == 2 ? x.count(4) : -99;
        });
    }

    private static void fractions() {
        says("Fractions are in lowest terms, the denominator above 0 (0 is 0 by 1).");
        NeverAgain x = told("most 4;matters 2 2 2;");
        due("6 by 4 above", 3, x.mean(1, 0));
        due("6 by 4 below", 2, x.mean(1, 1));
        for (String weights : new String[] {"1;", "1 9;", "2 9 9;", "2 6 3;", "3 9 3 6;", "4 9 9 9 9;", "4 2 4 6 8;"}) {
            x = told("most 16;near;matters " + weights);
            for (int n = 1; n <= 4; n++) {
                long above = x.mean(n, 0);
                long below = x.mean(n, 1);
                doc.due("a denominator above 0", below > 0);
                due("lowest terms", 1, BigInteger.valueOf(above).gcd(BigInteger.valueOf(below)).longValue());
            }
        }
    }

    // ---- 1: numbers, matters, gap, near, days

    private static void numbers() {
        says("======== 1 NUMBERS 1 to most (4 to 16; 12 at first).");
        due("at first", 12, new NeverAgain().rule(0));
        due("at first", upTo(12), new NeverAgain().may());
        for (int most = 4; most <= 16; most++) {
            NeverAgain x = told("most " + most + ";");
            due("most", most, x.rule(0));
            due("NUMBERS 1 to " + most, upTo(most), x.may());
            due("NUMBER 0", BAD, x.means(0));
            due("NUMBER 1", 0, x.means(1));
            due("NUMBER " + most, (most - 1) % 2, x.means(most));
            due("NUMBER " + (most + 1), BAD, x.means(most + 1));
        }
        faulty("most 3;", 3, 5);
        faulty("most 17;", 3, 5);
        says("MATTERS 0 to matters less 1 (1 to 4; 2), each with a WEIGHT (1 to 9; 1).");
        due("at first", 2, new NeverAgain().rule(1));
        due("at first", 1, new NeverAgain().weight(1));
        due("at first", BAD, new NeverAgain().weight(2));
        for (int matters = 1; matters <= 4; matters++) {
            NeverAgain x = told("matters " + matters + ";");
            due("matters", matters, x.rule(1));
            due("MATTER -1", BAD, x.weight(-1));
            due("WEIGHT at first", 1, x.weight(0));
            due("WEIGHT at first", 1, x.weight(matters - 1));
            due("MATTER " + matters, BAD, x.weight(matters));
        }
        for (int weight = 1; weight <= 9; weight++) {
            due("WEIGHT", weight, told("matters 1 " + weight + ";").weight(0));
        }
        faulty("matters 0;", 3, 8);
        faulty("matters 5;", 3, 8);
        faulty("matters 1 0;", 3, 10);
        faulty("matters 1 10;", 3, 10);
    }

    private static void gapAndNear() {
        says("GAP (0 to 20; 0): 0: a NUMBER is never RUNG again; else not for GAP DAYS (rung on DAY t it may be again on "
            + "DAY t and GAP).");
        due("at first", 0, new NeverAgain().rule(2));
        faulty("gap 21;", 3, 4);
        due("never again", upTo(12) & ~bits(5), told("rung 5" + " 0".repeat(59) + ";").may());
        due("never again, the greatest", upTo(15), told("most 16;rung 16 0;").may());
        due("gap 0 is never again", STATE, told("gap 0;rung 5" + " 0".repeat(40) + ";").ring(5));
        for (int gap = 1; gap <= 20; gap++) {
            NeverAgain x = told("gap " + gap + ";rung 0 0 0 5;");
            due("GAP", gap, x.rule(2));
            for (int day = 4; day < 3 + gap; day++) {
                due("rung on DAY 3, not on DAY " + day, upTo(12) & ~bits(5), x.may());
                x.ring(0);
            }
            due("rung on DAY 3, again on DAY 3 and " + gap, upTo(12), x.may());
        }
        says("NEAR (0, 1; 0): 1: not next (by one) to the NUMBER that was RUNG on the DAY before.");
        due("at first", 0, new NeverAgain().rule(3));
        due("told", 1, told("near;").rule(3));
        due("near 2", BAD, new NeverAgain().near(2));
        due("next to 5, by one", upTo(12) & ~bits(4, 5, 6), told("near;rung 5;").may());
        due("the same is not next", upTo(12) & ~bits(4, 6), told("near;gap 1;rung 5;").may());
        due("not near", upTo(12), told("gap 1;rung 5;").may());
        due("the DAY before alone", upTo(12) & ~bits(8, 10), told("near;gap 1;rung 5 9;").may());
        due("the DAY before was SILENT", upTo(12) & ~bits(5), told("near;rung 5 0;").may());
        due("next to the least", upTo(12) & ~bits(2), told("near;gap 1;rung 1;").may());
        due("next to the most", upTo(12) & ~bits(11), told("near;gap 1;rung 12;").may());
    }

    private static void days() {
        says("DAYS that went (60 at most), by order, each with the NUMBER that was RUNG, or SILENT.");
        NeverAgain x = told("gap 1;");
        for (int t = 0; t < 60; t++) {
            doc.due("DAY " + t + " goes", x.ring(t % 13) >= NONE);
            due("DAYS", t + 1, x.rule(5));
        }
        due("60 at most", FULL, x.ring(0));
        for (int t = 0; t < 60; t++) {
            due("DAY " + t, t % 13, x.day(t));
        }
        says("TODAY is the DAY behind them.");
        due("DAY 0", upTo(12), told("gap 2;").may());
        due("DAY 1", upTo(12) & ~bits(3), told("gap 2;rung 3;").may());
        due("DAY 2", upTo(12) & ~bits(4), told("gap 2;rung 3 4;").may());
    }

    private static void books() {
        says("BOOK: 0 fixed (at first): NUMBER n MEANS n less 1 modulo MATTERS;");
        due("at first", 0, new NeverAgain().rule(4));
        for (int matters = 1; matters <= 4; matters++) {
            NeverAgain x = told("most 16;near;rung 3;matters " + matters + ";");
            for (int n = 1; n <= 16; n++) {
                due("fixed, " + n + " of " + matters, (n - 1) % matters, x.means(n));
            }
        }
        says("1 rank: of those that may be RUNG on that DAY, by numbers, the first one MEANS 0, the next one 1, and so on, "
            + "modulo MATTERS; others MEAN none;");
        int[] three = {NONE, 0, 1, NONE, NONE, NONE, 2, 0, 1};
        int[] one = {NONE, 0, 0, NONE, NONE, NONE, 0, 0, 0};
        int[] four = {NONE, 0, 1, NONE, NONE, NONE, 2, 3, 0};
        NeverAgain x = told("most 9;matters 3;near;book rank;rung 1 5;");
        NeverAgain y = told("most 9;matters 1;near;book rank;rung 1 5;");
        NeverAgain z = told("most 9;matters 4;near;book rank;rung 1 5;");
        for (int n = 1; n <= 9; n++) {
            due("rank, " + n + " of 3", three[n - 1], x.means(n));
            due("rank, " + n + " of 1", one[n - 1], y.means(n));
            due("rank, " + n + " of 4", four[n - 1], z.means(n));
        }
        x.ring(2);
        due("on another DAY", 0, x.means(4));
        says("2 told: a NUMBER MEANS what PAGES tell of it, or none.");
        x = told("most 4;matters 3;book told;page 2 2;page 4 0;rung 4;");
        int[] pages = {NONE, 2, NONE, 0};
        for (int n = 1; n <= 4; n++) {
            due("told, " + n, pages[n - 1], x.means(n));
        }
    }

    // ---- 1: the text

    private static void tape() {
        says("THE TAPE has 400 bytes, places from 0.");
        for (int place : new int[] {0, 7, 8, 200, 399}) {
            faulty(" ".repeat(place) + "#" + " ".repeat(399 - place), 1, place);
        }
        NeverAgain x = new NeverAgain();
        feedText(x, " ".repeat(400));
        due("no more", FULL, x.feed(0));
        says("TOKENS, each as long as may be, blanks (32) between: NAMES (a .. z), NUMBERS (1 or 2 figures), one ; .");
        faulty("nearnear;", 2, 0);
        due("one NUMBER", 12, told("gap 12;").rule(2));
        faulty("gap 1 2;", 2, 6);
        faulty("ne ar;", 2, 0);
        taken("   gap   5   ;   near   ;   ", 2);
        taken("gap 5;near;", 2);
        taken("gap5;rung1 2 03;", 2);
        for (char c : new char[] {0, 9, 10, 13, 31, 33, '`', '{', 'A', 'Z', '/', ':', '<', '-', 127, 128, 160, 255}) {
            faulty("gap" + c + "5;", 1, 3);
            faulty("gap 5" + c + ";", 1, 5);
        }
        faulty("a;", 2, 0);
        faulty("z;", 2, 0);
        due("one figure", 7, told("gap 7;").rule(2));
        due("two figures", 7, told("gap 07;").rule(2));
        due("all figures", 1 + 2 + 3 + 4 + 5 + 6 + 7 + 8 + 9 + 10, told("rung 01 02 3 4 5 6 7 08 9 10 0 00;").count(6));
        faulty("gap 007;", 1, 4);
        faulty("near;;", 2, 5);
        says("text: { line }");
        taken("", 0);
        taken("near;", 1);
        taken("rung 1;".repeat(50), 50);
        taken("wait 0 0;ask 0;rung 1;page 1 0;book rank;near;gap 1;matters 2;most 4;", 9);
    }

    private static void lines() {
        says("line: most N ; | matters N { N } ; | gap N ; | near ; | book B ; | page N N ; | rung N { N } ; "
            + "| ask N { N } ; | wait N N ;");
        String[] whole = {"most 4 ;", "matters 1 ;", "gap 1 ;", "near ;", "book rank ;", "page 1 1 ;", "rung 1 ;", "ask 1 ;",
            "wait 1 1 ;"};
        for (String line : whole) {
            taken(line, 1);
            for (int end = line.length() - 1; end > 0; end--) {
                boolean cut = line.charAt(end) == ' ' || line.charAt(end) == ';';
                if (cut) {
                    faulty(line.substring(0, end), 2, end);
                }
            }
            int last = line.length() - 1;
            faulty(line.substring(0, last) + "near ;", 2, last);
            boolean more = line.matches("(matters|rung|ask) .*");
            if (more) {
                taken(line.substring(0, last) + "1 ;", 1);
            } else {
                faulty(line.substring(0, last) + "1 ;", 2, last);
            }
        }
        taken("matters 4 1 2 3 4;", 1);
        taken("rung 1 2 3 4 5;", 1);
        taken("ask 1 0 1 0 1;", 1);
        for (String none : new String[] {"matters near;", "rung near;", "ask near;", "most near;", "gap near;"}) {
            faulty(none, 2, none.indexOf(' ') + 1);
        }
        faulty("page near 1;", 2, 5);
        faulty("wait near 1;", 2, 5);
        says("B: fixed | rank | told");
        due("fixed", 0, told("book fixed;").rule(4));
        due("rank", 1, told("book rank;").rule(4));
        due("told", 2, told("book told;").rule(4));
        faulty("book most;", 2, 5);
        faulty("book 0;", 2, 5);
    }

    private static void whatLinesTell() {
        says("matters: how many, WEIGHTS from 0 on.");
        NeverAgain x = told("matters 4 5 6;");
        int[] weights = {5, 6, 1, 1};
        due("how many", 4, x.rule(1));
        for (int m = 0; m < 4; m++) {
            due("WEIGHT " + m, weights[m], x.weight(m));
        }
        says("page: a NUMBER (1 to 16), a MATTER (0 to 3).");
        x = told("most 16;matters 4;page 1 0;page 16 3;");
        due("page 1", 0, x.page(1));
        due("page 16", 3, x.page(16));
        due("page 2", NONE, x.page(2));
        faulty("page 0 0;", 3, 5);
        faulty("page 17 0;", 3, 5);
        faulty("page 1 4;", 3, 7);
        says("rung: DAYS more (0: SILENT).");
        x = told("rung 3;rung 0 7;most 16;rung 16;");
        int[] rung = {3, 0, 7, 16, BAD};
        for (int t = 0; t < 5; t++) {
            due("DAY " + t, rung[t], x.day(t));
        }
        faulty("rung 17;", 3, 5);
        says("ask: MATTERS more that are ASKED.");
        x = told("most 4;matters 4;gap 1;book told;page 1 0;page 2 1;page 3 2;page 4 3;ask 3;ask 0 2;ask 1;");
        due("how many", 4, x.count(1));
        int[] asked = {4, 1, 3, 2, NONE};
        for (int i = 0; i < 5; i++) {
            due("the " + i + "th by its NUMBER", asked[i], x.plan(10 + i));
        }
        faulty("ask 4;", 3, 4);
        taken("matters 4;ask 0 1 2 3;ask 3;", 3);
        says("wait: a MATTER, up to which DAY (0 to 4).");
        x = told("most 4;matters 4;gap 1;book told;page 1 0;page 2 1;page 3 2;page 4 3;wait 3 3;wait 0 0;wait 2 4;wait 1 4;");
        due("how many", 4, x.count(2));
        int[] waiting = {4, 1, 3, 2};
        for (int i = 0; i < 4; i++) {
            due("the " + i + "th by its NUMBER", waiting[i], x.putOff(20 + i));
        }
        for (int until = 0; until <= 4; until++) {
            String one = "most 4;matters 1;book told;page 1 0;rung 1;wait 0 " + until + ";gap ";
            due("up to DAY " + until, until, told(one + (until + 1) + ";").putOff(10));
            due("not behind DAY " + until, NONE, told(one + (until + 2) + ";").putOff(10));
        }
        faulty("wait 4 0;", 3, 5);
        faulty("wait 0 5;", 3, 7);
    }

    private static void faults() {
        says("FAULTS, the first met as it is read (a TOKEN is read when the one before has been taken):");
        faulty("gap 21 123;", 3, 4);
        faulty("gap 21#", 3, 4);
        faulty("foo#", 2, 0);
        faulty("near near#", 2, 5);
        faulty("near;near#", 4, 5);
        faulty("page 1 0;page 1#", 4, 14);
        faulty("matters 1 1 1#", 5, 12);
        faulty("gap#;gap 21;", 1, 3);
        faulty("rung 13;gap;", 2, 11);
        faulty("book 123;", 1, 5);
        faulty("near 123;", 1, 5);
        faulty("gap 5 123;", 1, 6);
        faulty("page 123 0;", 1, 5);
        says("1 no TOKEN, a NUMBER that is too long (its first byte).");
        faulty("#", 1, 0);
        faulty("near;  #", 1, 7);
        faulty("rung 1 2 100;", 1, 9);
        faulty("rung 1 2 0000000000000000;", 1, 9);
        faulty("123;", 1, 0);
        says("2 a TOKEN that can not stand there (a NAME that begins no line, is no B; or the end: the length).");
        faulty("most 4;fixed;", 2, 7);
        faulty("mos 4;", 2, 0);
        faulty("mostly 4;", 2, 0);
        for (String line : new String[] {"most 4;", "matters 1;", "gap 1;", "near;", "page 1 1;", "rung 1;", "ask 1;", "wait 1 1;"}) {
            faulty("x" + line.substring(1), 2, 0);
            faulty("x" + line, 2, 0);
        }
        faulty("book xold;", 2, 5);
        faulty("book ran;", 2, 5);
        faulty("book ranks;", 2, 5);
        faulty(";", 2, 0);
        faulty("12", 2, 0);
        faulty("near", 2, 4);
        faulty("near   ", 2, 7);
        faulty("rung 1 2", 2, 8);
        says("3 a NUMBER out of its bounds.");
        Object[][] outside = {{"most 3;", 5}, {"most 17;", 5}, {"matters 0;", 8}, {"matters 5;", 8}, {"matters 4 0;", 10},
            {"matters 4 1 10;", 12}, {"gap 21;", 4}, {"gap 99;", 4}, {"page 0 0;", 5}, {"page 17 0;", 5}, {"page 1 4;", 7},
            {"rung 17;", 5}, {"rung 0 99;", 7}, {"ask 4;", 4}, {"ask 0 4;", 6}, {"wait 4 0;", 5}, {"wait 0 5;", 7}};
        for (Object[] row : outside) {
            faulty((String) row[0], 3, (Integer) row[1]);
        }
    }

    private static void laterFaults() {
        says("4 most, matters, gap, near, book for the second time (its NAME), a page of a NUMBER that has one (it).");
        faulty("most 4;most 4;", 4, 7);
        faulty("matters 1;matters 1;", 4, 10);
        faulty("gap 1;gap 1;", 4, 6);
        faulty("near;near;", 4, 5);
        faulty("book fixed;book fixed;", 4, 11);
        faulty("page 1 0;page 2 0;page 1 1;", 4, 23);
        taken("rung 1;rung 1;ask 1;ask 1;wait 1 1;wait 1 1;page 1 0;page 2 0;", 8);
        says("5 more WEIGHTS than MATTERS, the 61st DAY, the 6th MATTER that is ASKED (it), the 5th wait (its NAME).");
        taken("matters 2 1 1;", 1);
        faulty("matters 2 1 1 1;", 5, 14);
        taken("rung" + " 1".repeat(60) + ";", 1);
        faulty("rung" + " 1".repeat(61) + ";", 5, 125);
        faulty("rung" + " 1".repeat(60) + ";rung 1;", 5, 130);
        taken("ask 0 0 0 0 0;", 1);
        faulty("ask 0 0 0 0 0 1;", 5, 14);
        faulty("ask 0 0 0;ask 0 0 1;", 5, 18);
        taken("wait 0 0;".repeat(4), 4);
        faulty("wait 0 0;".repeat(4) + "wait", 5, 36);
        says("Behind all (the length): 6 a NUMBER, a MATTER that there is not.");
        faulty("page 13 0; ", 6, 11);
        faulty("page 16 0;", 6, 10);
        faulty("page 1 2;", 6, 9);
        faulty("rung 1 13;", 6, 10);
        faulty("ask 0 2;", 6, 8);
        faulty("wait 2 0;", 6, 9);
        faulty("rung 5;most 4;", 6, 14);
        taken("rung 13;most 13;", 2);
        taken("page 13 2;ask 2;wait 2 0;matters 3;most 13;", 5);
        faulty("rung 13;near;#", 1, 13);
        says("(rung need not be as GAP and NEAR want it.)");
        taken("near;rung 1 1 2 3 3;", 2);
        taken("gap 20;rung 1 1;", 2);
        says("A text that is taken tells all, in place of what there was; no YEAR is told; IMAGES are gone.");
        NeverAgain x = told("most 5;matters 3 4 5 6;gap 4;near;book told;page 5 2;rung 5 1;ask 2;wait 2 2;");
        x.tell(3);
        x.keep(0);
        x.keep(1);
        x.sheet(0, 1, 7);
        x.read(0, 0, 0, 1);
        due("taken", 1, tell(x, "rung 7;"));
        toldAnew(x);
        due("a SHEET is not told by a text, and stays", 7, x.count(5));
        due("so does what was found in one", 3, x.torn());
        due("taken again", 1, tell(x, "rung 7;"));
        toldAnew(x);
        tell(x, "most 16;matters 4;rung 16 16 16;ask 3 3;wait 3 0;wait 3 0;page 16 3;");
        for (int i = 0; i < 3; i++) {
            due("there are fewer NUMBERS and MATTERS than there were", 2, tell(x, "most 4;matters 1;"));
        }
    }

    /** What "rung 7;" tells, whatever there was. */
    private static void toldAnew(NeverAgain x) {
        int[] rules = {12, 2, 0, 0, 0, 1};
        for (int what = 0; what < 6; what++) {
            due("rule " + what, rules[what], x.rule(what));
        }
        due("WEIGHT", 1, x.weight(0));
        due("PAGE", NONE, x.page(5));
        due("DAY", 7, x.day(0));
        due("ASKED", 0, x.count(1));
        due("WAITS", 0, x.count(2));
        due("YEAR", 0, x.count(0));
        due("IMAGES", 0, x.count(3));
        due("IMAGE 0", STATE, x.back(0));
        due("IMAGE 1", STATE, x.back(1));
    }

    // ---- 2: what may be rung, plans, put off

    private static void mayBeRung() {
        says("======== 2 A NUMBER may be RUNG on a DAY, if GAP and NEAR let it be, by all DAYS ahead of that one.");
        NeverAgain x = told("most 6;gap 3;near;rung 1 6 4;");
        due("both let it be", bits(1, 2), x.may());
        due("GAP does not", STATE, x.ring(6));
        due("NEAR does not", STATE, x.ring(3));
        due("both do", 1, x.ring(2));
        due("by DAYS ahead, that are planned too", 3, told("most 4;matters 1;ask 0 0;").plan(0));
        due("by DAYS ahead, that are planned too", 4, told("most 4;matters 1;near;ask 0 0;").plan(0));
        says("To TELL a MATTER on a DAY: a NUMBER that may be RUNG then and MEANS it then is RUNG.");
        due("MEANS it, and may not be RUNG", NONE, told("most 4;book told;page 1 0;rung 1;").cheap(0));
        due("may be RUNG, and MEANS another", NONE, told("most 4;book told;page 1 1;").cheap(0));
        due("both", 3, told("most 4;rung 1;").cheap(0));
        due("MEANS it then, by rank", 2, told("most 4;book rank;rung 1;").cheap(0));
        says("THE RULE: the least such one.");
        due("of 3, 5, 7, 9, 11", 3, told("rung 1;").cheap(0));
        due("of the pages", 8, told("book told;page 11 1;page 8 1;page 9 1;page 1 0;").cheap(1));
        says("A PLAN for MATTERS that are ASKED (5): one on each DAY from TODAY on, by order, TOLD; the fewest STROKES "
            + "(NUMBERS, summed), of several the first by NUMBERS.");
        x = told("most 6;near;book told;page 1 0;page 4 0;page 2 1;page 6 1;ask 0 1;");
        planned(x, 6, 4, 2);
        planned(told("most 5;near;book told;page 1 0;page 4 0;page 2 1;page 5 1;ask 0 1;"), 6, 1, 5);
        planned(told("most 5;matters 1;ask 0 0 0 0 0;"), 15, 1, 2, 3, 4, 5);
        planned(told("most 4;ask 1 0 1 0;"), 10, 2, 1, 4, 3);
        planned(told("most 4;gap 2;rung 3 1;ask 0 0;"), 4, 3, 1);
        due("five", FULL, told("ask 0 0 0 0 0;").ask(0));
        says("BY RULE: each by THE RULE.");
        x.drop(2);
        due("1, and then 2 is next", 7, x.byRule(0));
        due("DAY 0", 1, x.byRule(10));
        due("DAY 1", 6, x.byRule(11));
        due("DAY 2", NONE, x.byRule(12));
    }

    private static void planned(NeverAgain x, int strokes, int... numbers) {
        due("STROKES", strokes, x.plan(0));
        for (int i = 0; i < 5; i++) {
            due("DAY " + i, i < numbers.length ? numbers[i] : NONE, x.plan(10 + i));
        }
    }

    /** Strokes, and then the day and the number of each that waits. */
    private static void done(String text, int strokes, int... daysAndNumbers) {
        NeverAgain x = told(text);
        due("STROKES of " + text, strokes, x.putOff(0));
        for (int i = 0; 2 * i < daysAndNumbers.length; i++) {
            due("DAY of " + i + " in " + text, daysAndNumbers[2 * i], x.putOff(10 + i));
            due("NUMBER of " + i + " in " + text, daysAndNumbers[2 * i + 1], x.putOff(20 + i));
        }
    }

    private static void putOff() {
        says("PUT OFF: MATTERS that WAIT (4), each TOLD on one of the DAYS 0 (TODAY) up to its last one (0 to 4), one on a "
            + "DAY at most, other DAYS SILENT: the fewest STROKES, of several the first by what is done DAY by DAY (the "
            + "least one that WAITS ahead of others, of one the least NUMBER first, SILENT last).");
        due("four", FULL, told("wait 0 0;wait 0 0;wait 0 0;wait 0 0;").stay(0, 0));
        // 1 is free again on DAY 3 from TODAY.
        done("most 4;matters 1;gap 4;rung 1;wait 0 4;", 1, 3, 1);
        done("most 4;matters 1;gap 4;rung 1;wait 0 3;", 1, 3, 1);
        done("most 4;matters 1;gap 4;rung 1;wait 0 2;", 2, 0, 2);
        done("most 4;matters 1;gap 4;rung 1;wait 0 0;", 2, 0, 2);
        done("most 4;matters 1;wait 0 0;wait 0 0;", NONE, NONE, NONE, NONE, NONE);
        done("most 4;matters 1;wait 0 1;wait 0 0;", 3, 1, 2, 0, 1);
        done("most 4;matters 1;gap 1;wait 0 4;wait 0 4;wait 0 4;wait 0 4;", 4, 0, 1, 1, 1, 2, 1, 3, 1);
        // A SILENT DAY between makes 2 and 1 possible, and 2 on a DAY of its own.
        done("most 4;matters 1;near;wait 0 4;wait 0 4;", 3, 0, 1, 2, 2);
        done("most 4;matters 1;near;wait 0 1;wait 0 1;", 4, 0, 1, 1, 3);
        // Of several: the one that was told first is told first, though its MATTER is greater.
        done("most 4;wait 1 4;wait 0 4;", 3, 0, 2, 1, 1);
        done("most 4;wait 0 4;wait 1 4;", 3, 0, 1, 1, 2);
        // The one that was told later is told earlier, where that is cheaper or comes first.
        done("most 4;gap 3;book told;page 1 0;page 2 1;rung 1;wait 0 4;wait 1 4;", 3, 2, 1, 0, 2);
        done("most 4;gap 4;near;book told;page 1 0;page 4 0;page 2 1;rung 1;wait 0 4;wait 1 4;", 3, 3, 1, 1, 2);
        // Of one the least NUMBER.
        done("most 4;matters 1;book told;page 4 0;page 2 0;wait 0 4;wait 0 4;", 6, 0, 2, 1, 4);
        // SILENT last.
        done("most 4;matters 1;book told;page 4 0;wait 0 4;", 4, 0, 4);
    }

    private static void missedAndYear() {
        says("MISSED k: as if the latest k DAYS had been SILENT, for one who missed them.");
        NeverAgain x = told("most 4;matters 4;book rank;rung 1 0 2;");
        int[][] meant = {{NONE, NONE, 0, 1}, {NONE, 0, 1, 2}, {NONE, 0, 1, 2}, {0, 1, 2, 3}, {0, 1, 2, 3}};
        for (int k = 0; k < 5; k++) {
            for (int n = 1; n <= 4; n++) {
                due("MISSED " + k + ": " + n, meant[k][n - 1], x.reads(k, n));
            }
        }
        x = told("most 4;matters 4;gap 2;near;book rank;rung 2 4;");
        due("SILENT, and none is next", 0, x.reads(1, 1));
        due("SILENT, and none is next", 2, x.reads(1, 3));
        due("a DAY all the same: GAP goes on from DAY 0", 1, x.reads(1, 2));
        says("A YEAR (12 at most): NUMBERS for DAYS from TODAY on (0: SILENT).");
        x = told("most 16;gap 2;rung 5;");
        int[] year = {5, 0, 0, 0, 0, 0, 0, 0, 0, 0, 0, 0};
        for (int i = 0; i < 12; i++) {
            due("YEAR", i + 1, x.tell(year[i]));
        }
        due("12 at most", FULL, x.tell(0));
        due("TODAY is its first DAY", 0, x.judge(0));
        x.cut(0);
        x.tell(0);
        x.tell(5);
        due("SILENT, and 5 on the DAY behind", NONE, x.judge(0));
    }

    private static void forgottenAndSheets() {
        says("FORGOTTEN: n unlike NUMBERS that were RUNG on none of the DAYS, together so many STROKES.");
        NeverAgain x = told("most 5;gap 1;rung 3 0 3;");
        due("2 and 4, 1 and 5; not 3 and 3", 2, x.forgotten(2, 6, 0));
        due("3 was RUNG, though it may be again", 0, x.forgotten(1, 3, 0));
        due("1 and 4", bits(1, 4), x.forgotten(2, 5, 2));
        due("unlike", 0, x.forgotten(2, 8, 0));
        says("SHEETS 0 to 3 are rows of BYTES (lane 0), SHORTS (1), INTS (2) with 0 to 40 CELLS, or nothing (at first).");
        for (int k = 0; k < 4; k++) {
            due("nothing at first", -11, new NeverAgain().lay(k, 0, 0));
            for (int lane = 0; lane < 3; lane++) {
                x = new NeverAgain();
                due("no CELLS", 1, x.sheet(k, lane, 0));
                due("no CELL 0", -12, x.lay(k, 0, 0));
                due("40 CELLS", 1, x.sheet(k, lane, 40));
                due("CELL 39", 1, x.lay(k, 39, 256 + 7));
                due("no CELL 40", -12, x.lay(k, 40, 0));
                due("a row of its lane", lane == 0 ? 1 : -20, x.read(k, lane, 39, 1));
                x.lay(k, 39, 65536 + 6);
                due("a row of its lane", lane < 2 ? 1 : -20, x.read(k, lane, 39, 1));
                due("41 CELLS", BAD, x.sheet(k, lane, 41));
            }
            due("lane 3", BAD, x.sheet(k, 3, 1));
            due("lane -1", BAD, x.sheet(k, -1, 1));
        }
        due("SHEET 4", BAD, x.sheet(4, 0, 1));
        due("SHEET -1", BAD, x.sheet(-1, 0, 1));
        says("A FAULT is what the machine finds: 1 NULL (nothing), 2 INDEX, 3 CAST (another lane), 4 SIZE (below 0).");
        x = new NeverAgain();
        x.sheet(1, 1, 3);
        torn(x, 1, 0, 0, 0);
        torn(x, 2, 1, 1, 3);
        torn(x, 2, 1, 1, -1);
        torn(x, 3, 1, 0, 0);
        torn(x, 3, 1, 2, 0);
        torn(x, 0, 1, 1, 2);
        due("SIZE", -14, x.sheet(0, 0, -1));
        due("NULL, by lay", -11, x.lay(0, 0, 0));
        due("INDEX, by lay", -12, x.lay(1, 3, 0));
    }

    private static void torn(NeverAgain x, int fault, int k, int lane, int cell) {
        due("read", fault == 0 ? 1 : 0, x.read(k, lane, cell, 1));
        due("torn", fault, x.torn());
    }

    // ---- the order of the calls

    private static void groups() throws IOException {
        String source = Files.readString(Path.of("src/main/java/NeverAgain.java"));
        String[][] groups = {
            {"the text", "feed", "end", "text", "fault", "rule", "day", "weight", "page"},
            {"what is changed", "gap", "near", "book", "write", "undo"},
            {"days", "may", "means", "cheap", "ring", "holds"},
            {"a year", "tell", "cut", "judge"},
            {"plans", "ask", "drop", "plan", "byRule", "worst", "mean"},
            {"who missed days", "reads", "alike"},
            {"put off", "stay", "serve", "putOff"},
            {"forgotten", "forgotten"},
            {"images, sheets", "keep", "back", "sheet", "lay", "read", "torn", "count"}};
        int at = 0;
        for (String[] group : groups) {
            String calls = "`" + String.join("`, `", List.of(group).subList(1, group.length)) + "`";
            says("Ahead of the calls " + calls + " the interface says: ---- " + group[0] + ".");
            int heading = source.indexOf("// ---- " + group[0] + "\n");
            doc.due("the class says it", heading > at);
            at = heading;
            for (int i = 1; i < group.length; i++) {
                int call = source.indexOf(" " + group[i] + "(", source.indexOf("public", at));
                doc.due(group[i] + " stands there, in its order", call > at);
                at = call;
            }
        }
    }

    public static void main(String[] args) throws IOException {
        doc = new Document(C, "# NeverAgain", "## Promise 1:");
        whatItIs();
        face();
        answers();
        refusals();
        fractions();
        numbers();
        gapAndNear();
        days();
        books();
        tape();
        lines();
        whatLinesTell();
        faults();
        laterFaults();
        mayBeRung();
        putOff();
        missedAndYear();
        forgottenAndSheets();
        groups();
        doc.close();
        C.close();
    }
}
