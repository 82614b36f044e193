import java.io.IOException;

/**
 * The document from its first promise to its last line, passage by passage: each is quoted, and
 * behind it stands what would not be so if it did not hold. DocumentTermsTest has what is ahead.
 */
public final class DocumentPromisesTest extends Bell {
    private static final Checks C = new Checks("DocumentPromisesTest");
    private static Document doc;

    private static void says(String passage) {
        doc.says(passage);
    }

    private static void due(String call, long want, long got) {
        doc.due(call, want, got);
    }

    /** The answers to the calls of one number, from the first one told on. */
    private static void dueFrom(String call, int first, java.util.function.IntUnaryOperator made, int... wanted) {
        for (int i = 0; i < wanted.length; i++) {
            due(call + " " + (first + i), wanted[i], made.applyAsInt(first + i));
        }
    }

    // ---- the text

    private static void newObject() {
        says("## Promise 1: A new object `NeverAgain()`: NUMBERS 1 to 12, two MATTERS, no DAYS; SHEETS of nothing.");
        NeverAgain x = new NeverAgain();
        due("NUMBERS", upTo(12), x.may());
        dueFrom("rule", 0, x::rule, 12, 2, 0, 0, 0, 0);
        dueFrom("weight", -1, x::weight, BAD, 1, 1, BAD);
        due("DAYS", BAD, x.day(0));
        dueFrom("count", 0, x::count, 0, 0, 0, 0, 0, NONE, 0);
        for (int k = 0; k < 4; k++) {
            due("SHEET " + k, -11, x.lay(k, 0, 0));
        }
    }

    private static void tape() {
        says("## Promise 2: feed `int feed(long v)`: Eight bytes come behind THE TAPE, the highest first: how many it has.");
        NeverAgain x = new NeverAgain();
        // "most 16;" and "gap 7;  "
        due("eight", 8, x.feed(0x6d6f73742031363bL));
        due("eight more", 16, x.feed(0x67617020373b2020L));
        due("both are told", 2, x.text());
        due("the first", 16, x.rule(0));
        due("the other", 7, x.rule(2));
        due("eight of any kind", 8, x.feed(-1L));
        says("FULL: more than 400.");
        for (int i = 2; i <= 50; i++) {
            due("up to 400", 8 * i, x.feed(0));
        }
        due("408", FULL, x.feed(0));
        x.end(393);
        due("401", FULL, x.feed(0));
        due("as it was", 393, x.count(4));
        x.end(392);
        due("400", 400, x.feed(0));
        says("## Promise 3: end `int end(int n)`: THE TAPE keeps its first n bytes: how many it had.");
        x = new NeverAgain();
        x.feed(0x6d6f73742031363bL);
        x.feed(0x67617020373b2020L);
        due("all", 16, x.end(16));
        due("eight", 16, x.end(8));
        due("again", 8, x.end(8));
        due("the first are kept", 1, x.text());
        due("the first are kept", 16, x.rule(0));
        x.feed(0);
        due("none", 8, x.end(0));
        due("none", 0, x.end(0));
        says("BAD.");
        x.feed(0);
        dueFrom("end", 9, x::end, BAD, BAD);
        due("end -1", BAD, x.end(-1));
        due("end far below", BAD, x.end(LOW));
        due("end far above", BAD, x.end(HIGH));
        due("as it was", 8, x.count(4));
    }

    private static void text() {
        says("## Promise 4: text `int text()`: THE TAPE (empty then) tells all: how many lines;");
        NeverAgain x = new NeverAgain();
        due("three lines", 3, tell(x, "most 7; near;  gap 3;"));
        due("empty", 0, x.count(4));
        dueFrom("rule", 0, x::rule, 7, 2, 3, 1, 0, 0);
        due("no lines", 0, x.text());
        dueFrom("rule", 0, x::rule, 12, 2, 0, 0, 0, 0);
        says("-10 less the place of its FAULT: that which was told stays.");
        tell(x, "most 7;near;gap 3;matters 3 2;book rank;page 7 2;rung 7;ask 2;wait 1 1;");
        x.tell(2);
        x.keep(0);
        due("at place 18", -28, tell(x, "most 5;gap 1;rung 17;"));
        due("at place 0", -10, tell(x, "#"));
        due("empty too", 0, x.count(4));
        dueFrom("rule", 0, x::rule, 7, 3, 3, 1, 1, 1);
        due("WEIGHT", 2, x.weight(0));
        due("PAGE", 2, x.page(7));
        due("DAY", 7, x.day(0));
        dueFrom("count", 0, x::count, 1, 1, 1, 1, 0, NONE, 7);
        says("## Promise 5: fault `int fault()`: The FAULT of the latest text(); 0.");
        x = new NeverAgain();
        due("no text", 0, x.fault());
        String[] faulty = {"#", "foo;", "gap 21;", "near;near;", "ask 0 0 0 0 0 0;", "ask 2;"};
        for (int i = 0; i < 6; i++) {
            tell(x, faulty[i]);
            due(faulty[i], i + 1, x.fault());
            due("again", i + 1, x.fault());
        }
        feedText(x, "near;");
        due("not before text()", 6, x.fault());
        x.text();
        due("none", 0, x.fault());
    }

    private static void asked() {
        NeverAgain x = told("most 9;matters 3 4 5 6;gap 2;near;book told;rung 3 0 9 5;page 9 1;page 1 0;");
        says("## Promise 6: rule `int rule(int what)`: 0 most, 1 MATTERS, 2 GAP, 3 NEAR, 4 BOOK, 5 DAYS. BAD.");
        dueFrom("rule", -1, x::rule, BAD, 9, 3, 2, 1, 2, 4, BAD);
        says("## Promise 7: day `int day(int t)`: The NUMBER of a DAY (0 on; 0: it was SILENT). BAD.");
        dueFrom("day", -1, x::day, BAD, 3, 0, 9, 5, BAD);
        says("## Promise 8: weight `int weight(int m)`: The WEIGHT of a MATTER. BAD.");
        dueFrom("weight", -1, x::weight, BAD, 4, 5, 6, BAD);
        says("## Promise 9: page `int page(int n)`: What PAGES tell of a NUMBER. BAD; NONE: nothing.");
        dueFrom("page", 0, x::page, BAD, 0, NONE, NONE, NONE, NONE, NONE, NONE, NONE, 1, BAD);
    }

    // ---- what is changed

    private static void changed() {
        NeverAgain x = new NeverAgain();
        says("## Promise 10: gap `int gap(int v)`: GAP becomes v: what it was. BAD.");
        int was = 0;
        for (int v = 20; v >= 0; v--) {
            due("gap " + v, was, x.gap(v));
            due("GAP", v, x.rule(2));
            was = v;
        }
        x.gap(9);
        due("gap 21", BAD, x.gap(21));
        due("gap -1", BAD, x.gap(-1));
        due("GAP", 9, x.rule(2));
        says("## Promise 11: near `int near(int v)`: NEAR becomes v: what it was. BAD.");
        due("near 1", 0, x.near(1));
        due("near 2", BAD, x.near(2));
        due("near -1", BAD, x.near(-1));
        due("NEAR", 1, x.rule(3));
        due("near 1", 1, x.near(1));
        due("near 0", 1, x.near(0));
        due("NEAR", 0, x.rule(3));
        says("## Promise 12: book `int book(int v)`: BOOK becomes v: what it was. BAD.");
        due("book 2", 0, x.book(2));
        due("book 1", 2, x.book(1));
        due("book 3", BAD, x.book(3));
        due("book -1", BAD, x.book(-1));
        due("BOOK", 1, x.rule(4));
        due("book 0", 1, x.book(0));
        due("BOOK", 0, x.rule(4));
        says("## Promise 13: write `int write(int n, int m)`: The PAGE of a NUMBER tells a MATTER (NONE: nothing): what it "
            + "told. BAD.");
        due("12 tells 1", NONE, x.write(12, 1));
        due("12 tells 0", 1, x.write(12, 0));
        due("PAGE", 0, x.page(12));
        due("MATTER 2", BAD, x.write(12, 2));
        due("MATTER -1", BAD, x.write(12, -1));
        due("MATTER -5", BAD, x.write(12, -5));
        due("NUMBER 13", BAD, x.write(13, 0));
        due("NUMBER 0", BAD, x.write(0, 0));
        due("NUMBER 0 tells nothing", BAD, x.write(0, NONE));
        due("12 tells nothing", 0, x.write(12, NONE));
        due("PAGE", NONE, x.page(12));
        due("PAGE of another", NONE, x.page(11));
        says("## Promise 14: undo `int undo(int n)`: DAYS are the first n alone: how many there were. BAD.");
        x = told("rung 4 0 6;");
        due("undo 4", BAD, x.undo(4));
        due("undo -1", BAD, x.undo(-1));
        due("undo 3", 3, x.undo(3));
        due("undo 2", 3, x.undo(2));
        dueFrom("day", 0, x::day, 4, 0, BAD);
        due("6 may be again", upTo(12) & ~bits(4), x.may());
        due("undo 3", BAD, x.undo(3));
        due("undo 0", 2, x.undo(0));
        due("undo 0", 0, x.undo(0));
    }

    // ---- days

    private static void days() {
        says("## Promise 15: may `int may()`: NUMBERS that may be RUNG TODAY (bits, 1 << NUMBER).");
        due("all", 0b11110, told("most 4;").may());
        due("none", 0, told("most 4;rung 4 3 2 1;").may());
        due("some", 0b110000, told("most 5;gap 3;near;rung 5 1 2;").may());
        due("the greatest", 1 << 16, told("most 16;rung 1 2 3 4 5 6 7 8 9 10 11 12 13 14 15;").may());
        says("## Promise 16: means `int means(int n)`: What a NUMBER MEANS TODAY. BAD; NONE.");
        NeverAgain x = told("most 5;matters 3;rung 2;page 4 2;page 2 1;");
        dueFrom("fixed", 0, x::means, BAD, 0, 1, 2, 0, 1, BAD);
        x.book(1);
        dueFrom("rank", 0, x::means, BAD, 0, NONE, 1, 2, 0, BAD);
        x.book(2);
        dueFrom("told", 0, x::means, BAD, NONE, 1, NONE, 2, NONE, BAD);
        says("## Promise 17: cheap `int cheap(int m)`: THE RULE: the NUMBER for a MATTER TODAY. BAD; NONE.");
        dueFrom("told", -1, x::cheap, BAD, NONE, NONE, 4, BAD);
        x.book(1);
        dueFrom("rank", -1, x::cheap, BAD, 1, 3, 4, BAD);
        x.book(0);
        dueFrom("fixed", -1, x::cheap, BAD, 1, 5, 3, BAD);
    }

    private static void ring() {
        says("## Promise 18: ring `int ring(int n)`: A NUMBER is RUNG TODAY (0: SILENT): what it MEANS then (NONE: none, "
            + "SILENT).");
        NeverAgain x = told("most 5;matters 3;book rank;rung 2;page 1 1;");
        due("by rank on that DAY", 1, x.ring(3));
        due("by rank on that DAY", 1, x.ring(4));
        due("SILENT", NONE, x.ring(0));
        x.book(0);
        due("fixed", 1, x.ring(5));
        due("fixed, SILENT", NONE, x.ring(0));
        x.book(2);
        due("told", 1, x.ring(1));
        due("told, SILENT", NONE, x.ring(0));
        dueFrom("day", 0, x::day, 2, 3, 4, 0, 5, 0, 1, 0, BAD);
        x.undo(0);
        due("MEANS none, and is RUNG", NONE, x.ring(5));
        due("DAY", 5, x.day(0));
        says("BAD; STATE: it may not be; FULL: 60 DAYS.");
        due("NUMBER 6", BAD, x.ring(6));
        due("NUMBER -1", BAD, x.ring(-1));
        due("NUMBER NONE", BAD, x.ring(NONE));
        due("by GAP", STATE, x.ring(5));
        x.near(1);
        due("by NEAR", STATE, x.ring(4));
        due("DAYS", 1, x.rule(5));
        for (int t = 1; t < 60; t++) {
            due("DAY " + t, NONE, x.ring(0));
        }
        due("60 DAYS", FULL, x.ring(1));
        due("60 DAYS, SILENT", FULL, x.ring(0));
        due("DAYS", 60, x.rule(5));
        says("## Promise 19: holds `int holds()`: How many DAYS can follow on which something is RUNG, if each time the least "
            + "NUMBER that may be is (61: more than 60).");
        due("1 to 12", 12, new NeverAgain().holds());
        due("3 and 5", 2, told("most 5;rung 1 2 4;").holds());
        due("none", 0, told("most 4;rung 1 2 3 4;").holds());
        due("1, 3, and what is left is next", 2, told("most 4;near;").holds());
        due("2, 4, 1, 3 would be four, but 1 is the least", 2, told("most 4;near;rung 0;").holds());
        due("1 to 4, and 1 may be on DAY 5 alone", 4, told("most 4;gap 5;").holds());
        due("for ever", 61, told("most 4;gap 4;").holds());
        due("for ever, DAYS are told or not", 61, told("most 4;gap 1;rung" + " 0".repeat(60) + ";").holds());
        NeverAgain y = told("most 6;rung 2;");
        y.holds();
        due("it only asks", 1, y.rule(5));
    }

    // ---- a year

    private static void year() {
        says("## Promise 20: tell `int tell(int n)`: A YEAR: one NUMBER more (0: SILENT): how many there are.");
        NeverAgain x = told("most 4;book told;page 1 0;page 2 1;near;");
        due("1", 1, x.tell(1));
        due("SILENT", 2, x.tell(0));
        due("2", 3, x.tell(2));
        due("no DAY goes", 0, x.rule(5));
        says("BAD; FULL.");
        due("NUMBER 5", BAD, x.tell(5));
        due("NUMBER -1", BAD, x.tell(-1));
        for (int i = 4; i <= 12; i++) {
            due("more", i, x.tell(4));
        }
        due("the 13th", FULL, x.tell(0));
        due("as it was", 12, x.count(0));
        says("## Promise 21: cut `int cut(int n)`: The YEAR is its first n alone: how many there were. BAD.");
        due("cut 13", BAD, x.cut(13));
        due("cut -1", BAD, x.cut(-1));
        due("cut 12", 12, x.cut(12));
        due("cut 3", 12, x.cut(3));
        due("cut 4", BAD, x.cut(4));
        due("as it was", 3, x.count(0));
        says("## Promise 22: judge `int judge(int what)`: The first of the YEAR that may not be RUNG on its DAY, or MEANS none "
            + "then (what 0), which of both (1: 0 it may not be, 1 it MEANS none).");
        x.tell(4);
        judged("4 MEANS none", x, 3, 1);
        x.cut(3);
        x.tell(1);
        judged("1 is never RUNG again", x, 3, 0);
        x.cut(3);
        judged("what was cut is not judged", x, NONE, NONE);
        x.cut(1);
        x.tell(2);
        x.tell(4);
        judged("2 is next to 1, and the first", x, 1, 0);
        x.cut(1);
        x.tell(4);
        x.tell(1);
        judged("4 MEANS none, and is the first", x, 1, 1);
        x.cut(0);
        x.tell(2);
        x.tell(3);
        judged("3 may not be and MEANS none", x, 1, 0);
        x.cut(0);
        x.tell(1);
        x.ring(1);
        judged("by DAYS that went", x, 0, 0);
        x = told("most 4;matters 2;gap 2;book rank;rung 3;");
        x.tell(3);
        judged("on its own DAY: today", x, 0, 0);
        x.cut(0);
        x.tell(0);
        x.tell(3);
        judged("on its own DAY: tomorrow", x, NONE, NONE);
        says("BAD; NONE: all are well.");
        due("what 2", BAD, x.judge(2));
        due("what -1", BAD, x.judge(-1));
        x.cut(0);
        judged("no YEAR", x, NONE, NONE);
        x.tell(0);
        judged("SILENT", x, NONE, NONE);
    }

    private static void judged(String why, NeverAgain x, int first, int which) {
        due(why, first, x.judge(0));
        due(why, which, x.judge(1));
    }

    // ---- plans

    private static void plans() {
        NeverAgain x = told("most 6;near;book told;page 1 0;page 4 0;page 2 1;page 6 1;");
        says("## Promise 23: ask `int ask(int m)`: A MATTER more is ASKED: how many are. BAD; FULL.");
        due("MATTER 2", BAD, x.ask(2));
        due("MATTER -1", BAD, x.ask(-1));
        dueFrom("ask", 0, x::ask, 1, 2);
        due("three", 3, x.ask(0));
        due("four", 4, x.ask(0));
        due("five", 5, x.ask(1));
        due("six", FULL, x.ask(0));
        due("as it was", 5, x.count(1));
        says("## Promise 24: drop `int drop(int n)`: MATTERS that are ASKED are the first n alone: how many there were. BAD.");
        due("drop 6", BAD, x.drop(6));
        due("drop -1", BAD, x.drop(-1));
        due("drop 5", 5, x.drop(5));
        due("drop 2", 5, x.drop(2));
        due("drop 3", BAD, x.drop(3));
        due("as it was", 2, x.count(1));
        says("## Promise 25: plan `int plan(int what)`: A PLAN: STROKES (what 0); 10 and i (0 to 4): the NUMBER of DAY i.");
        due("4 and 2", 6, x.plan(0));
        dueFrom("plan", 10, x::plan, 4, 2);
        NeverAgain five = told("most 5;matters 1;ask 0 0 0 0 0;");
        due("all five", 15, five.plan(0));
        dueFrom("plan", 10, five::plan, 1, 2, 3, 4, 5);
        due("it only asks", 0, five.rule(5));
        says("BAD; NONE: there is none; 10 and i: not so many.");
        for (int what : new int[] {-1, 1, 9, 15, 20, LOW, HIGH}) {
            due("what " + what, BAD, x.plan(what));
            due("byRule " + what, BAD, x.byRule(what));
        }
        dueFrom("not so many", 12, x::plan, NONE, NONE, NONE);
        x.ask(0);
        due("4, 2, and 1 is next; 1, 6, 4", 11, x.plan(0));
        x.ask(0);
        dueFrom("0 is told by two NUMBERS alone", 10, x::plan, NONE, NONE, NONE, NONE, NONE);
        due("there is none", NONE, x.plan(0));
        x.drop(2);
        due("4 and 2 again", 6, x.plan(0));
        says("## Promise 26: byRule `int byRule(int what)`: BY RULE: likewise.");
        due("1 and 6", 7, x.byRule(0));
        dueFrom("byRule", 10, x::byRule, 1, 6, NONE, NONE, NONE);
        dueFrom("byRule", 10, five::byRule, 1, 2, 3, 4, 5);
        x.ring(1);
        due("by DAYS that went: 1 is RUNG", 4 + 2, x.byRule(0));
        dueFrom("byRule", 10, x::byRule, 4, 2, NONE);
        x.drop(0);
        due("nothing", 0, x.byRule(0));
        due("nothing", 0, x.plan(0));
        says("BAD; NONE.");
        dueFrom("byRule", 13, five::byRule, 4, 5, BAD);
        x = told("most 4;near;book told;page 1 0;page 4 0;page 2 1;ask 0 1;");
        due("1, and 2 is next", NONE, x.byRule(0));
        due("1, and 2 is next", NONE, x.byRule(10));
        due("but there is a PLAN", 6, x.plan(0));
    }

    private static void worst() {
        says("## Promise 27: worst `int worst(int n, int what)`: Of all rows of n MATTERS (1 to 3) for which there is a PLAN and "
            + "it goes BY RULE, that by which the latter has most STROKES more: how many more (what 0), the row as a NUMBER "
            + "to the base 4 (1; the first MATTER the highest figure; of several the least).");
        worstIs("most 6;near;book told;page 1 0;page 4 0;page 2 1;page 6 1;", 2, 1, 1);
        worstIs("most 6;near;book told;page 1 1;page 4 1;page 2 0;page 6 0;", 2, 1, 4);
        worstIs("most 6;near;matters 4;book told;page 1 3;page 4 3;page 2 2;page 6 2;", 2, 1, 14);
        worstIs("most 7;near;book told;page 1 0;page 4 0;page 2 1;page 7 1;", 2, 2, 1);
        worstIs("most 6;near;book told;page 1 0;page 4 0;page 2 1;page 6 1;", 1, 0, 0);
        // 0 0 0 can not be told: 0 0 1 is the first that can.
        worstIs("most 6;near;book told;page 1 0;page 4 0;page 2 1;page 6 1;", 3, 0, 1);
        // 0 1 has a PLAN and does not go BY RULE.
        worstIs("most 4;near;book told;page 1 0;page 4 0;page 2 1;", 2, 0, 0);
        // 0 1 and 2 3 have as many more.
        worstIs("most 13;matters 4;near;book told;page 1 2;page 4 2;page 2 3;page 6 3;page 8 0;page 11 0;page 9 1;page 13 1;",
            2, 1, 1);
        // 9 is next to 10 TODAY, and so 0 can not be the first of the three.
        worstIs("most 10;matters 4;near;book told;page 1 3;page 4 3;page 2 2;page 6 2;page 9 0;rung 10;", 3, 1, 3 * 16 + 2 * 4);
        worstIs("most 4;matters 4;book told;page 1 3;", 1, 0, 3);
        worstIs("most 4;matters 4;", 3, 0, 6);
        worstIs("most 4;matters 1;rung 1 2 3;", 1, 0, 0);
        NeverAgain x = told("most 6;near;book told;page 1 0;page 4 0;page 2 1;page 6 1;rung 2 0;");
        due("by DAYS that went: 2 is RUNG", 0, x.worst(2, 0));
        says("BAD; NONE: there are none.");
        due("n 0", BAD, x.worst(0, 0));
        due("n 4", BAD, x.worst(4, 0));
        due("what 2", BAD, x.worst(1, 2));
        due("what -1", BAD, x.worst(1, -1));
        worstIs("most 4;rung 1 2 3 4;", 1, NONE, NONE);
        worstIs("most 4;rung 1 2;", 3, NONE, NONE);
        worstIs("most 4;book told;", 1, NONE, NONE);
    }

    private static void worstIs(String text, int n, int more, int row) {
        due("how many more", more, told(text).worst(n, 0));
        due("the row", row, told(text).worst(n, 1));
    }

    private static void mean() {
        says("## Promise 28: mean `long mean(int n, int what)`: STROKES of n DAYS (1 to 4) BY RULE in the mean, on each DAY a "
            + "MATTER by WEIGHTS, by itself (where THE RULE has none: most and 1, the DAY is SILENT): 0, 1.");
        meanIs("most 4;matters 2 1 2;", 1, 1 + 2 * 2, 3);
        // 0 0: 1 3, 0 1: 1 2, 1 0: 2 1, 1 1: 2 4
        meanIs("most 4;matters 2 1 2;", 2, 4 + 2 * 3 + 2 * 3 + 4 * 6, 9);
        meanIs("most 4;matters 1 5;", 4, 1 + 2 + 3 + 4, 1);
        meanIs("most 4;matters 1;rung 1 2;", 4, 3 + 4 + 5 + 5, 1);
        // 3 is next to 2 on DAY 0, and DAY 0 is SILENT.
        meanIs("most 4;matters 1;near;book told;page 3 0;rung 2;", 2, 5 + 3, 1);
        meanIs("most 4;matters 1;gap 2;book told;page 1 0;rung 1;", 4, 5 + 1 + 5 + 1, 1);
        meanIs("most 16;matters 1;book told;", 3, 17 * 3, 1);
        meanIs("most 4;matters 4 9 1 1 1;", 1, 9 + 2 + 3 + 4, 12);
        meanIs("most 4;matters 2 1 3;gap 1;", 1, 7, 4);
        meanIs("most 4;matters 2 1 3;gap 1;", 3, 21, 4);
        says("BAD.");
        NeverAgain x = new NeverAgain();
        due("n 0", BAD, x.mean(0, 0));
        due("n 5", BAD, x.mean(5, 0));
        due("what 2", BAD, x.mean(1, 2));
        due("what -1", BAD, x.mean(1, -1));
    }

    private static void meanIs(String text, int n, long above, long below) {
        NeverAgain x = told(text);
        int divisor = java.math.BigInteger.valueOf(above).gcd(java.math.BigInteger.valueOf(below)).intValue();
        due("above, " + n + " DAYS of " + text, above / divisor, x.mean(n, 0));
        due("below, " + n + " DAYS of " + text, below / divisor, x.mean(n, 1));
    }

    // ---- who missed days, put off

    private static void missed() {
        NeverAgain x = told("most 6;book rank;rung 1 0 4;");
        says("## Promise 29: reads `int reads(int k, int n)`: What a NUMBER MEANS TODAY to one who MISSED k (0 to 10). BAD; NONE.");
        dueFrom("MISSED 0", 0, n -> x.reads(0, n), BAD, NONE, 0, 1, NONE, 0, 1, BAD);
        dueFrom("MISSED 1", 0, n -> x.reads(1, n), BAD, NONE, 0, 1, 0, 1, 0, BAD);
        dueFrom("MISSED 2", 0, n -> x.reads(2, n), BAD, NONE, 0, 1, 0, 1, 0, BAD);
        dueFrom("MISSED 3", 0, n -> x.reads(3, n), BAD, 0, 1, 0, 1, 0, 1, BAD);
        dueFrom("MISSED 10", 0, n -> x.reads(10, n), BAD, 0, 1, 0, 1, 0, 1, BAD);
        due("MISSED 11", BAD, x.reads(11, 1));
        due("MISSED -1", BAD, x.reads(-1, 1));
        NeverAgain ten = told("most 12;matters 4;book rank;rung 12 1 2 3 4 5 6 7 8 9 10;");
        due("MISSED 9", 0, ten.reads(9, 2));
        due("MISSED 10", 0, ten.reads(10, 1));
        due("the 11th is not MISSED", NONE, ten.reads(10, 12));
        says("## Promise 30: alike `int alike(int k)`: NUMBERS that may be RUNG TODAY, MEAN something and MEAN the same to him "
            + "(bits, 1 << NUMBER). BAD.");
        dueFrom("MISSED", -1, x::alike, BAD, bits(2, 3, 5, 6), bits(2, 3), bits(2, 3), bits(5, 6), bits(5, 6));
        due("MISSED 10", bits(5, 6), x.alike(10));
        due("MISSED 11", BAD, x.alike(11));
        due("the least NUMBER too", bits(1, 2), told("most 4;book rank;rung 3;").alike(1));
        x.book(0);
        due("fixed: all that may be RUNG", bits(2, 3, 5, 6), x.alike(3));
        x.book(2);
        x.write(5, 1);
        x.write(4, 1);
        due("told: MEAN something, and may be RUNG", bits(5), x.alike(3));
    }

    private static void putOff() {
        NeverAgain x = told("most 5;matters 2;gap 3;rung 1;");
        says("## Promise 31: stay `int stay(int m, int until)`: A MATTER more WAITS, up to a DAY (0 to 4): how many do. BAD; FULL.");
        due("MATTER 2", BAD, x.stay(2, 0));
        due("MATTER -1", BAD, x.stay(-1, 0));
        due("DAY 5", BAD, x.stay(0, 5));
        due("DAY -1", BAD, x.stay(0, -1));
        due("one", 1, x.stay(0, 4));
        due("two", 2, x.stay(1, 0));
        due("it WAITS up to DAY 4", 2, x.putOff(10));
        due("it WAITS up to DAY 0", 0, x.putOff(11));
        due("three", 3, x.stay(0, 3));
        due("four", 4, x.stay(1, 1));
        due("five", FULL, x.stay(0, 4));
        due("as it was", 4, x.count(2));
        says("## Promise 32: serve `int serve()`: Nothing WAITS: how many did.");
        due("four", 4, x.serve());
        due("none", 0, x.count(2));
        due("none", 0, x.serve());
        says("## Promise 33: putOff `int putOff(int what)`: PUT OFF: STROKES (what 0); 10 and i (0 to 3): the DAY of the i-th "
            + "that WAITS, 20 and i: its NUMBER.");
        due("nothing WAITS", 0, x.putOff(0));
        x.stay(0, 4);
        x.stay(1, 4);
        x.stay(1, 1);
        x.stay(0, 0);
        // DAY 0 is the last one's, 3; DAY 1 the third one's, 2; 1 is free again on DAY 2, 2 on DAY 4.
        due("STROKES", 3 + 2 + 1 + 2, x.putOff(0));
        dueFrom("DAY", 10, x::putOff, 2, 4, 1, 0);
        dueFrom("NUMBER", 20, x::putOff, 1, 2, 2, 3);
        due("it only asks", 1, x.rule(5));
        says("BAD; NONE: it can not be; there are not so many.");
        for (int what : new int[] {-1, 1, 9, 14, 19, 24, 30, LOW, HIGH}) {
            due("what " + what, BAD, x.putOff(what));
        }
        x.serve();
        x.stay(1, 4);
        dueFrom("not so many", 10, x::putOff, 0, NONE, NONE, NONE, BAD);
        dueFrom("not so many", 20, x::putOff, 2, NONE, NONE, NONE, BAD);
        x.stay(1, 0);
        x.stay(0, 0);
        due("two on DAY 0", NONE, x.putOff(0));
        dueFrom("two on DAY 0", 10, x::putOff, NONE, NONE, NONE, NONE);
        dueFrom("two on DAY 0", 20, x::putOff, NONE, NONE, NONE, NONE);
        due("never again", NONE, told("most 4;book told;page 1 0;rung 1;wait 0 4;").putOff(0));
    }

    // ---- forgotten

    private static void forgotten() {
        says("## Promise 34: forgotten `int forgotten(int n, int strokes, int what)`: FORGOTTEN: sets of n NUMBERS (1 to 6), "
            + "together so many STROKES (0 to 100): how many (what 0), the first by its NUMBERS, the least of them first (1; "
            + "bits, 1 << NUMBER), NUMBERS that are in all (2; bits).");
        // 1 3 4 5 6 7 were not RUNG.
        NeverAgain x = told("most 7;rung 2;");
        setsAre(x, 1, 7, 1, bits(7), bits(7));
        setsAre(x, 2, 8, 2, bits(1, 7), 0);
        setsAre(x, 3, 11, 2, bits(1, 3, 7), bits(1));
        setsAre(x, 3, 14, 3, bits(1, 6, 7), 0);
        setsAre(x, 5, 25, 1, bits(3, 4, 5, 6, 7), bits(3, 4, 5, 6, 7));
        setsAre(x, 6, 26, 1, bits(1, 3, 4, 5, 6, 7), bits(1, 3, 4, 5, 6, 7));
        x.ring(7);
        setsAre(x, 1, 7, 0, NONE, NONE);
        x.undo(1);
        setsAre(x, 1, 7, 1, bits(7), bits(7));
        setsAre(told("most 16;"), 6, 81, 1, bits(11, 12, 13, 14, 15, 16), bits(11, 12, 13, 14, 15, 16));
        setsAre(told("most 16;"), 6, 80, 1, bits(10, 12, 13, 14, 15, 16), bits(10, 12, 13, 14, 15, 16));
        setsAre(told("most 16;"), 2, 17, 8, bits(1, 16), 0);
        setsAre(told("most 16;"), 6, 23, 2, bits(1, 2, 3, 4, 5, 8), bits(1, 2, 3, 4));
        says("BAD; NONE (1, 2): none.");
        setsAre(x, 1, 2, 0, NONE, NONE);
        setsAre(x, 1, 8, 0, NONE, NONE);
        setsAre(x, 2, 15, 0, NONE, NONE);
        setsAre(x, 1, 0, 0, NONE, NONE);
        setsAre(x, 6, 100, 0, NONE, NONE);
        due("n 0", BAD, x.forgotten(0, 5, 0));
        due("n 7", BAD, x.forgotten(7, 28, 0));
        due("strokes -1", BAD, x.forgotten(1, -1, 0));
        due("strokes 101", BAD, x.forgotten(1, 101, 0));
        due("what 3", BAD, x.forgotten(1, 5, 3));
        due("what -1", BAD, x.forgotten(1, 5, -1));
    }

    private static void setsAre(NeverAgain x, int n, int strokes, int many, int first, int inAll) {
        String call = "forgotten(" + n + ", " + strokes + ", ";
        due(call + "0)", many, x.forgotten(n, strokes, 0));
        due(call + "1)", first, x.forgotten(n, strokes, 1));
        due(call + "2)", inAll, x.forgotten(n, strokes, 2));
    }

    // ---- images, sheets

    private static void images() {
        says("## Promise 35: keep `int keep(int k)`: IMAGE k (0, 1) is DAYS, PAGES, GAP, NEAR, BOOK, MATTERS that are ASKED, "
            + "that WAIT: whether there was one (1, 0). BAD.");
        NeverAgain x = told("most 5;rung 1 2;page 3 1;page 5 0;gap 3;near;book told;ask 0 1;wait 1 4;");
        due("keep 2", BAD, x.keep(2));
        due("keep -1", BAD, x.keep(-1));
        due("there was none", 0, x.keep(1));
        due("one IMAGE", 1, x.count(3));
        due("there was one", 1, x.keep(1));
        due("the other", 0, x.keep(0));
        due("two IMAGES", 2, x.count(3));
        x.tell(4);
        x.tell(0);
        x.undo(0);
        x.ring(5);
        x.write(3, NONE);
        x.write(1, 1);
        x.gap(0);
        x.near(0);
        x.book(1);
        x.drop(0);
        x.ask(1);
        x.serve();
        x.stay(0, 0);
        x.stay(0, 1);
        due("there was one", 1, x.keep(0));
        says("## Promise 36: back `int back(int k)`: All is as IMAGE k: how many DAYS.");
        due("two DAYS", 2, x.back(1));
        dueFrom("rule", 0, x::rule, 5, 2, 3, 1, 2, 2);
        dueFrom("day", 0, x::day, 1, 2, BAD);
        dueFrom("page", 1, x::page, NONE, NONE, 1, NONE, 0);
        dueFrom("count", 0, x::count, 2, 2, 1, 2);
        dueFrom("ASKED, by their NUMBERS", 10, x::plan, 5, 3, NONE);
        due("WAITS, up to DAY 4", 1, x.putOff(10));
        due("one DAY", 1, x.back(0));
        dueFrom("rule", 0, x::rule, 5, 2, 0, 0, 1, 1);
        due("DAY", 5, x.day(0));
        dueFrom("page", 1, x::page, 1, NONE, NONE, NONE, 0);
        dueFrom("count", 0, x::count, 2, 1, 2, 2);
        x.undo(0);
        x.write(2, 1);
        due("as often as one likes", 1, x.back(0));
        due("PAGE", NONE, x.page(2));
        NeverAgain large = told("most 16;matters 4;page 16 3;page 15 2;rung" + " 16".repeat(60)
            + ";ask 0 0 0 0 3;wait 0 0;wait 0 1;wait 0 2;wait 3 3;book told;gap 1;page 1 0;");
        large.keep(1);
        large.write(16, 2);
        large.write(15, NONE);
        large.undo(0);
        large.ring(1);
        large.drop(0);
        large.serve();
        due("60 DAYS", 60, large.back(1));
        due("PAGE 16", 3, large.page(16));
        due("PAGE 15", 2, large.page(15));
        due("DAY 0", 16, large.day(0));
        due("DAY 59", 16, large.day(59));
        due("all that are ASKED", 4 + 16, large.plan(0));
        due("all that WAIT", 3 + 16, large.putOff(0));
        says("BAD; STATE: there is none.");
        due("back 2", BAD, x.back(2));
        due("back -1", BAD, x.back(-1));
        due("there is none", STATE, told("rung 1;").back(0));
        due("there is none", STATE, told("rung 1;").back(1));
    }

    private static void sheets() {
        NeverAgain x = told("rung 9;");
        says("## Promise 37: sheet `int sheet(int k, int lane, int n)`: A SHEET is a new row of CELLS 0: 1.");
        due("a row", 1, x.sheet(0, 2, 3));
        due("three CELLS", 3, x.count(5));
        x.lay(0, 0, 5);
        due("a new row", 1, x.sheet(0, 2, 2));
        due("two CELLS", 2, x.count(5));
        due("they are 0", 2, x.read(0, 2, 0, 2));
        dueFrom("day", 0, x::day, 9, 0, 0, BAD);
        says("BAD: also n above 40; -10 - 4.");
        due("SHEET 4", BAD, x.sheet(4, 0, 1));
        due("SHEET -1", BAD, x.sheet(-1, 0, 1));
        due("lane 3", BAD, x.sheet(0, 3, 1));
        due("lane -1", BAD, x.sheet(0, -1, 1));
        due("n 41", BAD, x.sheet(0, 0, 41));
        due("n far above", BAD, x.sheet(0, 0, HIGH));
        due("n -1", -14, x.sheet(0, 0, -1));
        due("n far below", -14, x.sheet(0, 0, LOW));
        due("as it was", 2, x.count(5));
        due("n 40", 1, x.sheet(3, 0, 40));
        says("## Promise 38: lay `int lay(int k, int i, int v)`: CELL i of a SHEET becomes v (its lowest bits): 1.");
        for (int lane = 0; lane < 3; lane++) {
            int bits = 8 << lane;
            x.sheet(1, lane, 4);
            due("7", 1, x.lay(1, 0, 7));
            due("its lowest bits are 7", 1, x.lay(1, 1, (int) (7 | 1L << bits)));
            due("its lowest bits are not 7", 1, x.lay(1, 2, (int) (7 | 1L << (bits - 1))));
            due("-1", 1, x.lay(1, 3, -1));
            x.gap(1);
            due("7 and 7", 2, x.read(1, lane, 0, 2));
            due("more than 7, or below 0", -20, x.read(1, lane, 2, 1));
            due("-1", -20, x.read(1, lane, 3, 1));
        }
        dueFrom("day", 3, x::day, 7, 7, 7, 7, 7, 7, BAD);
        says("BAD: k; -10 less the FAULT: NULL, INDEX.");
        due("SHEET 4", BAD, x.lay(4, 0, 0));
        due("SHEET -1", BAD, x.lay(-1, 0, 0));
        due("NULL", -11, x.lay(2, 0, 0));
        due("NULL, whatever the CELL", -11, x.lay(2, -1, 0));
        due("INDEX 4", -12, x.lay(1, 4, 0));
        due("INDEX -1", -12, x.lay(1, -1, 0));
        due("INDEX far above", -12, x.lay(1, HIGH, 0));
        due("INDEX far below", -12, x.lay(1, LOW, 0));
    }

    private static NeverAgain withSheet(String text, int... cells) {
        NeverAgain x = told(text);
        x.sheet(0, 0, cells.length);
        for (int i = 0; i < cells.length; i++) {
            x.lay(0, i, cells[i]);
        }
        return x;
    }

    private static void read() {
        says("## Promise 39: read `int read(int k, int lane, int f, int n)`: n (0 to 20) DAYS (their NUMBERS, 0: SILENT) are read "
            + "of a SHEET taken as of a lane, from CELL f on, one behind another as by ring(): how many went.");
        NeverAgain x = withSheet("most 6;rung 6;", 1, 2, 0, 5, 3);
        due("from CELL 1 on", 3, x.read(0, 0, 1, 3));
        dueFrom("day", 0, x::day, 6, 2, 0, 5, BAD);
        due("none", 0, x.read(0, 0, 0, 0));
        due("one", 1, x.read(0, 0, 4, 1));
        due("DAYS", 5, x.rule(5));
        x = withSheet("most 6;gap 1;", new int[20]);
        due("20", 20, x.read(0, 0, 0, 20));
        due("DAYS", 20, x.rule(5));
        says("What the machine refuses: those ahead go (its FAULT is asked by torn()).");
        x = withSheet("most 6;", 1, 2, 3);
        due("INDEX behind two", 2, x.read(0, 0, 1, 3));
        due("INDEX", 2, x.torn());
        dueFrom("day", 0, x::day, 2, 3, BAD);
        due("NULL", 0, x.read(1, 0, 0, 1));
        due("NULL", 1, x.torn());
        due("CAST", 0, x.read(0, 1, 0, 1));
        due("CAST", 3, x.torn());
        due("INDEX at once", 0, x.read(0, 0, -1, 2));
        due("INDEX", 2, x.torn());
        due("CAST is met at the first CELL, be it there or not", 0, x.read(0, 2, 3, 1));
        due("CAST", 3, x.torn());
        due("no CELL is read", 0, x.read(1, 2, 3, 0));
        due("none", 0, x.torn());
        due("DAYS", 2, x.rule(5));
        says("BAD: k, lane, n;");
        due("SHEET 4", BAD, x.read(4, 0, 0, 1));
        due("SHEET -1", BAD, x.read(-1, 0, 0, 1));
        due("lane 3", BAD, x.read(0, 3, 0, 1));
        due("lane -1", BAD, x.read(0, -1, 0, 1));
        due("n 21", BAD, x.read(0, 0, 0, 21));
        due("n -1", BAD, x.read(0, 0, 0, -1));
        due("DAYS", 2, x.rule(5));
        refusedByRing();
    }

    private static void refusedByRing() {
        says("-20 less i: DAY i is refused by ring() (BAD, STATE, FULL): then none goes; the first met.");
        NeverAgain x = withSheet("most 4;", 1, 2, 5, 1);
        due("BAD", -22, x.read(0, 0, 0, 4));
        due("none goes", 0, x.rule(5));
        x.lay(0, 2, -1);
        due("BAD", -22, x.read(0, 0, 0, 4));
        x.lay(0, 2, 2);
        due("STATE, by a DAY that was read", -22, x.read(0, 0, 0, 4));
        x.lay(0, 2, 0);
        due("STATE, and it is ahead of INDEX", -23, x.read(0, 0, 0, 5));
        due("INDEX is ahead of what is not read", 0, x.read(0, 0, 4, 5));
        due("none goes", 0, x.rule(5));
        x.near(1);
        due("STATE, by NEAR", -21, x.read(0, 0, 0, 4));
        x = withSheet("most 4;rung" + " 0".repeat(58) + ";", 0, 0, 0);
        due("FULL", -22, x.read(0, 0, 0, 3));
        due("none goes", 58, x.rule(5));
        due("60", 2, x.read(0, 0, 0, 2));
        due("FULL", -20, x.read(0, 0, 0, 1));
        due("none, though there are 60", 0, x.read(0, 0, 0, 0));
        x = withSheet("most 4;near;rung 1 4;", 0, 4, 3);
        due("STATE, by the latest DAY that went", -20, x.read(0, 0, 1, 1));
        due("STATE, next to the latest DAY that went", -20, x.read(0, 0, 2, 1));
        says("## Promise 40: torn `int torn()`: The FAULT of the latest read() that came to an end; 0.");
        due("at first", 0, new NeverAgain().torn());
        x = withSheet("most 4;", 1, 1);
        x.read(1, 0, 0, 1);
        due("NULL", 1, x.torn());
        due("again", 1, x.torn());
        due("refused by ring()", -21, x.read(0, 0, 0, 2));
        due("it came to no end", 1, x.torn());
        due("BAD", BAD, x.read(0, 0, 0, 21));
        due("it came to no end", 1, x.torn());
        x.lay(1, 0, 0);
        x.lay(0, 2, 0);
        due("lay() is no read()", 1, x.torn());
        due("well", 1, x.read(0, 0, 0, 1));
        due("none", 0, x.torn());
    }

    private static void count() {
        says("## Promise 41: count `int count(int what)`: How many: 0 the YEAR, 1 that are ASKED, 2 that WAIT, 3 IMAGES, 4 bytes "
            + "on THE TAPE, 5 CELLS of SHEET 0 (NONE: nothing), 6 all STROKES. BAD.");
        NeverAgain x = told("rung 3 0 12;ask 1 1 0 1;wait 0 1;wait 1 1;wait 0 0;");
        dueFrom("count", -1, x::count, BAD, 0, 4, 3, 0, 0, NONE, 15, BAD);
        x.tell(1);
        x.tell(0);
        x.keep(1);
        x.feed(1);
        x.end(7);
        x.sheet(1, 2, 8);
        due("SHEET 0 alone", NONE, x.count(5));
        x.sheet(0, 2, 9);
        x.ring(5);
        dueFrom("count", -1, x::count, BAD, 2, 4, 3, 1, 7, 9, 20, BAD);
        x.sheet(0, 0, 0);
        due("no CELLS", 0, x.count(5));
        due("all STROKES of 60 DAYS", 16 * 60, told("most 16;rung" + " 16".repeat(60) + ";").count(6));
    }

    private static void notPromised() {
        // These passages say what is free: there is nothing that they would have fail.
        says("## Not promised How the state is held inside the object is free, as are the speed of each call, the text of "
            + "toString and the behaviour of equals and hashCode.");
        says("Use of one object from several threads at once is not promised to be safe.");
        says("Nothing is promised beyond the answers and state changes described above, and nothing about an object after its "
            + "512th call.");
    }

    public static void main(String[] args) throws IOException {
        doc = new Document(C, "## Promise 1:", "");
        newObject();
        tape();
        text();
        asked();
        changed();
        days();
        ring();
        year();
        plans();
        worst();
        mean();
        missed();
        putOff();
        forgotten();
        images();
        sheets();
        read();
        count();
        notPromised();
        doc.close();
        C.close();
    }
}
