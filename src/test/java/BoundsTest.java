/**
 * Each boundary that the document names, by promise: the last value that goes and the first that
 * does not, on both sides; empty and full. (The text has TextBoundsTest, refused calls RefusedTest.)
 */
public final class BoundsTest extends Bell {
    private static final Checks C = new Checks("BoundsTest");

    private static void due(String call, long want, long got) {
        C.due(call, want, got);
    }

    // ---- the text

    private static void newObject() {
        NeverAgain x = new NeverAgain();
        due("1 numbers 1 to 12", upTo(12), x.may());
        due("1 number 12", NONE, x.page(12));
        due("1 number 13", BAD, x.page(13));
        due("1 number 0", BAD, x.page(0));
        due("1 matter 1", 1, x.weight(1));
        due("1 matter 2", BAD, x.weight(2));
        due("1 no days", BAD, x.day(0));
        due("1 nothing on the tape", 0, x.end(0));
        due("1 no year", 0, x.cut(0));
        due("1 none asked", 0, x.drop(0));
        due("1 none waits", 0, x.serve());
        due("1 no image 0", STATE, x.back(0));
        due("1 no image 1", STATE, x.back(1));
        for (int n = 1; n <= 12; n++) {
            due("1 page " + n, NONE, x.page(n));
            due("1 fixed " + n, (n - 1) % 2, x.means(n));
        }
        for (int k = 0; k < 4; k++) {
            for (int lane = 0; lane < 3; lane++) {
                due("1 sheet of nothing", 0, x.read(k, lane, 0, 1));
                due("1 sheet of nothing", 1, x.torn());
            }
        }
        due("1 never again", 0, x.ring(1));
        due("1 never again", STATE, x.ring(1));
        due("1 not near", 1, x.ring(2));
        NeverAgain y = new NeverAgain();
        due("1 another object has its own days", 0, y.rule(5));
        due("1 another object has its own numbers", upTo(12), y.may());
    }

    private static void feed() {
        for (int byteAt = 0; byteAt < 8; byteAt++) {
            for (int b : new int[] {'#', 0, 127, 128, 255}) {
                NeverAgain x = new NeverAgain();
                long blanks = 0x2020202020202020L;
                int shift = 56 - 8 * byteAt;
                due("2 feed", 8, x.feed(blanks & ~(255L << shift) | (long) b << shift));
                due("2 byte " + b + " at " + byteAt, -10 - byteAt, x.text());
                due("2 byte " + b + " at " + byteAt, 1, x.fault());
            }
        }
        for (long v : new long[] {0, -1, Long.MIN_VALUE, Long.MAX_VALUE}) {
            due("2 any eight bytes", 8, new NeverAgain().feed(v));
        }
        for (int n = 0; n <= 8; n++) {
            NeverAgain x = new NeverAgain();
            for (int i = 0; i < 49; i++) {
                x.feed(0x2020202020202020L);
            }
            due("2 392 bytes", 392, x.end(392));
            due("2 the last that go", 400, x.feed(0x2020202020202020L));
            due("2 down to " + (392 + n), 400, x.end(392 + n));
            due("2 behind " + (392 + n), n == 0 ? 400 : FULL, x.feed(0x2323232323232323L));
            due("2 how many behind", n == 0 ? 400 : 392 + n, x.count(4));
            due("2 what is refused is not there", n == 0 ? -402 : 0, x.text());
            due("2 empty then", 8, x.feed(0));
        }
    }

    private static void end() {
        for (int n = 0; n <= 8; n++) {
            NeverAgain x = new NeverAgain();
            x.feed(0x6e6561723b203b20L);
            due("3 end " + n, 8, x.end(n));
            due("3 end again", n, x.end(n));
            due("3 one more", BAD, x.end(n + 1));
            due("3 bytes", n, x.count(4));
            int[] answers = {0, -10, -10, -10, -14, 1, 1, -16, -16};
            due("3 the first " + n, answers[n], x.text());
        }
        NeverAgain x = new NeverAgain();
        x.feed(0x6e65617220202020L);
        x.end(4);
        due("3 what is cut is gone", 12, x.feed(0x3b20202020202020L));
        due("3 near;", 1, x.text());
        due("3 near", 1, x.rule(3));
    }

    private static void asked() {
        NeverAgain x = told("most 16;matters 4 2 3 4 9;gap 20;near;book told;page 1 0;page 16 3;rung 16 0 1;");
        int[] rules = {BAD, 16, 4, 20, 1, 2, 3, BAD};
        for (int what = -1; what <= 6; what++) {
            due("6 rule " + what, rules[what + 1], x.rule(what));
        }
        int[] days = {BAD, 16, 0, 1, BAD};
        for (int t = -1; t <= 3; t++) {
            due("7 day " + t, days[t + 1], x.day(t));
        }
        int[] weights = {BAD, 2, 3, 4, 9, BAD};
        for (int m = -1; m <= 4; m++) {
            due("8 weight " + m, weights[m + 1], x.weight(m));
        }
        due("9 page 0", BAD, x.page(0));
        due("9 page 1", 0, x.page(1));
        due("9 page 2", NONE, x.page(2));
        due("9 page 16", 3, x.page(16));
        due("9 page 17", BAD, x.page(17));
        x = told("rung" + " 1".repeat(59) + " 2;");
        due("7 the 60th", 2, x.day(59));
        due("7 the 61st", BAD, x.day(60));
        x.undo(59);
        due("7 the 59th", 1, x.day(58));
        due("7 what was undone", BAD, x.day(59));
        x = told("most 4;matters 1;");
        due("8 one matter", 1, x.weight(0));
        due("8 one matter", BAD, x.weight(1));
        due("8 one matter, not two more", BAD, x.weight(2));
        due("8 one matter, not three more", BAD, x.weight(3));
        due("9 four numbers", NONE, x.page(4));
        due("9 four numbers", BAD, x.page(5));
    }

    // ---- what is changed

    private static void changed() {
        NeverAgain x = new NeverAgain();
        int was = 0;
        for (int v = -1; v <= 21; v++) {
            boolean goes = v >= 0 && v <= 20;
            due("10 gap " + v, goes ? was : BAD, x.gap(v));
            was = goes ? v : was;
            due("10 gap is " + was, was, x.rule(2));
        }
        int[] nears = {BAD, 0, 0, BAD, 1, 0};
        int[] values = {-1, 0, 1, 2, 0, 1};
        for (int i = 0; i < 6; i++) {
            due("11 near " + values[i], nears[i], x.near(values[i]));
        }
        due("11 near is", 1, x.rule(3));
        int[] books = {BAD, 0, 0, 1, BAD, 2, 0};
        values = new int[] {-1, 0, 1, 2, 3, 0, 2};
        for (int i = 0; i < 7; i++) {
            due("12 book " + values[i], books[i], x.book(values[i]));
        }
        due("12 book is", 2, x.rule(4));
    }

    private static void write() {
        NeverAgain x = told("most 16;matters 4;");
        for (int n = 1; n <= 16; n++) {
            due("13 write " + n, NONE, x.write(n, n % 4));
            due("13 page " + n, n % 4, x.page(n));
        }
        due("13 write 0", BAD, x.write(0, 0));
        due("13 write 17", BAD, x.write(17, 0));
        due("13 the first stays", 1, x.page(1));
        due("13 the last stays", 0, x.page(16));
        int was = 0;
        for (int m = -5; m <= 4; m++) {
            boolean goes = m == NONE || m >= 0 && m <= 3;
            due("13 write matter " + m, goes ? was : BAD, x.write(16, m));
            was = goes ? m : was;
            due("13 page tells " + was, was, x.page(16));
        }
        due("13 nothing", 3, x.write(16, NONE));
        due("13 nothing again", NONE, x.write(16, NONE));
        x = told("most 4;matters 1;page 4 0;");
        due("13 four", 0, x.write(4, 0));
        due("13 five", BAD, x.write(5, 0));
        due("13 one matter", BAD, x.write(4, 1));
    }

    private static void undo() {
        NeverAgain x = told("rung" + " 3".repeat(60) + ";");
        due("14 undo 61", BAD, x.undo(61));
        due("14 undo 60", 60, x.undo(60));
        due("14 undo 59", 60, x.undo(59));
        due("14 undo 60 of 59", BAD, x.undo(60));
        due("14 undo -1", BAD, x.undo(-1));
        due("14 days", 59, x.rule(5));
        due("14 never again", upTo(12) & ~bits(3), x.may());
        due("14 undo 0", 59, x.undo(0));
        due("14 as on the first day", upTo(12), x.may());
        due("14 undo 0 of none", 0, x.undo(0));
        due("14 undo 1 of none", BAD, x.undo(1));
        due("14 a day more", 0, x.ring(3));
        due("14 a day", 3, x.day(0));
    }

    // ---- days

    private static void gaps() {
        for (int gap = 1; gap <= 20; gap++) {
            for (int n : new int[] {1, 5, 16}) {
                NeverAgain x = told("most 16;gap " + gap + ";");
                x.ring(n);
                for (int after = 1; after <= gap + 1; after++) {
                    boolean free = after >= gap;
                    due("15 gap " + gap + " day " + after, free ? upTo(16) : upTo(16) & ~bits(n), x.may());
                    x.ring(0);
                }
            }
        }
        NeverAgain x = told("most 4;rung 4" + " 0".repeat(59) + ";");
        due("15 never again on day 60", bits(1, 2, 3), x.may());
        x.gap(20);
        due("15 day 60 is far behind", upTo(4), x.may());
        due("15 the latest counts", bits(1, 2, 3), told("most 4;gap 3;rung 4 4 0;").may());
        due("15 the latest counts", upTo(4), told("most 4;gap 3;rung 4 4 0 0;").may());
        due("15 none may be", 0, told("most 4;rung 1 2 3 4;").may());
        due("15 none may be", 0, told("most 4;near;rung 1 4 0 3;").may());
        due("15 gap 4 of four", bits(1), told("most 4;gap 4;rung 1 2 3 4;").may());
        due("15 gap 5 of four", 0, told("most 4;gap 5;rung 1 2 3 4;").may());
    }

    private static void nears() {
        for (int most = 4; most <= 16; most += 6) {
            for (int n = 1; n <= most; n++) {
                NeverAgain x = told("most " + most + ";gap 1;near;rung " + n + ";");
                int next = 1 << (n - 1) | 1 << (n + 1);
                due("15 next to " + n + " of " + most, upTo(most) & ~next, x.may());
                x.near(0);
                due("15 not near", upTo(most), x.may());
                x.near(1);
                x.ring(0);
                due("15 a silent day is next to none", upTo(most), x.may());
            }
        }
        NeverAgain x = told("most 6;gap 1;near;rung 2 5;");
        due("15 the day before alone", bits(1, 2, 3, 5), x.may());
        x.undo(0);
        due("15 no day before", upTo(6), x.may());
    }

    private static void means() {
        for (int matters = 1; matters <= 4; matters++) {
            NeverAgain x = told("most 16;matters " + matters + ";rung 1 8;");
            int rank = 0;
            for (int n = 1; n <= 16; n++) {
                x.book(0);
                due("16 fixed " + n, (n - 1) % matters, x.means(n));
                x.book(1);
                boolean rung = n == 1 || n == 8;
                due("16 rank " + n, rung ? NONE : rank % matters, x.means(n));
                rank += rung ? 0 : 1;
                x.book(2);
                due("16 told nothing " + n, NONE, x.means(n));
            }
            x.write(16, matters - 1);
            x.write(8, 0);
            due("16 told 16", matters - 1, x.means(16));
            due("16 told though it may not be rung", 0, x.means(8));
            due("16 means 0", BAD, x.means(0));
            due("16 means 17", BAD, x.means(17));
        }
        NeverAgain x = told("most 4;book rank;rung 1 2 3 4;");
        for (int n = 1; n <= 4; n++) {
            due("16 none is ranked", NONE, x.means(n));
        }
        due("16 means 5", BAD, x.means(5));
    }

    private static void cheap() {
        NeverAgain x = told("most 16;matters 4;book told;page 16 3;page 1 0;");
        due("17 the first", 1, x.cheap(0));
        due("17 the last", 16, x.cheap(3));
        due("17 no page", NONE, x.cheap(1));
        due("17 matter 4", BAD, x.cheap(4));
        due("17 matter -1", BAD, x.cheap(-1));
        x.ring(16);
        due("17 the last is rung", NONE, x.cheap(3));
        x.write(1, 3);
        due("17 another page", 1, x.cheap(3));
        due("17 no more", NONE, x.cheap(0));
        x = told("most 4;matters 4;rung 4;");
        due("17 fixed", 1, x.cheap(0));
        due("17 fixed, rung", NONE, x.cheap(3));
        x.book(1);
        due("17 rank", 3, x.cheap(2));
        due("17 rank, three are left", NONE, x.cheap(3));
        x.book(0);
        x.near(1);
        due("17 next", NONE, x.cheap(2));
        x.ring(0);
        due("17 no longer next", 3, x.cheap(2));
        due("17 of one matter", 2, told("most 4;matters 1;rung 1;").cheap(0));
        due("17 of one matter", BAD, told("most 4;matters 1;rung 1;").cheap(1));
    }

    private static void ring() {
        NeverAgain x = told("most 4;matters 2;rung" + " 0".repeat(58) + ";");
        due("18 ring 4", 1, x.ring(4));
        due("18 ring 5", BAD, x.ring(5));
        due("18 ring -1", BAD, x.ring(-1));
        due("18 ring 4 again", STATE, x.ring(4));
        due("18 the 60th is silent", NONE, x.ring(0));
        due("18 the 61st", FULL, x.ring(1));
        due("18 the 61st is silent", FULL, x.ring(0));
        due("18 bad ahead of full", BAD, x.ring(5));
        due("18 state ahead of full", STATE, x.ring(4));
        due("18 60 days", 60, x.rule(5));
        x.undo(59);
        due("18 the 60th", 0, x.ring(1));
        due("18 full again", FULL, x.ring(2));
        due("18 the 60th", 1, x.day(59));
        x = told("most 16;matters 3;book rank;rung 1;");
        due("18 what it means then", 0, x.ring(2));
        due("18 what it means then", 1, x.ring(16));
        due("18 silent", NONE, x.ring(0));
        x.book(2);
        due("18 means none and is rung", NONE, x.ring(3));
        due("18 it was rung", 3, x.day(4));
        x = told("most 5;gap 3;near;");
        int[] numbers = {1, 1, 2, 3, 3, 2, 4, 5, 0, 1, 2, 0, 3, 2};
        int[] answers = {0, STATE, STATE, 0, STATE, STATE, STATE, 0, NONE, 0, STATE, NONE, 0, STATE};
        for (int i = 0; i < numbers.length; i++) {
            due("18 ring " + i + ": " + numbers[i], answers[i], x.ring(numbers[i]));
        }
    }

    private static void holds() {
        for (int most = 4; most <= 16; most++) {
            due("19 never again", most, told("most " + most + ";").holds());
            due("19 gap " + most, 61, told("most " + most + ";gap " + most + ";").holds());
            due("19 gap " + (most + 1), most, told("most " + most + ";gap " + (most + 1) + ";").holds());
        }
        due("19 gap 1", 61, told("most 4;gap 1;").holds());
        due("19 gap 1, near", 61, told("most 4;gap 1;near;").holds());
        due("19 the last is left", 1, told("most 4;rung 1 2 3;").holds());
        due("19 none is left", 0, told("most 4;rung 1 2 3 4;").holds());
        due("19 the next one is left", 0, told("most 4;near;rung 1 2 4;").holds());
        due("19 one is left, next", 0, told("most 4;near;rung 1 2 3;").holds());
        due("19 one is left, a day later", 1, told("most 4;near;rung 1 2 3 0;").holds());
        due("19 none today, though some would be later", 0, told("most 4;gap 5;rung 1 2 3 4;").holds());
        due("19 long, and not for ever", 29, told("most 16;gap 15;near;rung 2 0 0 15;").holds());
        due("19 behind 60 days", 4, told("most 4;rung" + " 0".repeat(60) + ";").holds());
        due("19 for ever behind 60 days", 61, told("most 16;gap 16;rung" + " 0".repeat(60) + ";").holds());
    }

    // ---- a year

    private static void year() {
        NeverAgain x = told("most 4;gap 1;");
        due("21 cut of none", 0, x.cut(0));
        due("21 cut 1 of none", BAD, x.cut(1));
        due("22 of none", NONE, x.judge(0));
        due("22 of none", NONE, x.judge(1));
        due("20 tell 5", BAD, x.tell(5));
        due("20 tell -1", BAD, x.tell(-1));
        for (int i = 1; i <= 12; i++) {
            due("20 tell " + i, i, x.tell(i % 5));
        }
        due("20 the 13th", FULL, x.tell(1));
        due("20 the 13th, silent", FULL, x.tell(0));
        due("20 bad ahead of full", BAD, x.tell(5));
        due("20 bad ahead of full", BAD, x.tell(-1));
        due("20 twelve", 12, x.count(0));
        due("21 cut 13", BAD, x.cut(13));
        due("21 cut -1", BAD, x.cut(-1));
        due("21 cut 12", 12, x.cut(12));
        due("21 cut 11", 12, x.cut(11));
        due("21 cut 12 of 11", BAD, x.cut(12));
        due("20 the 12th", 12, x.tell(0));
        due("20 full", FULL, x.tell(0));
        due("21 cut 0", 12, x.cut(0));
        due("20 the first", 1, x.tell(4));
    }

    private static void judge() {
        NeverAgain x = told("most 16;near;");
        for (int n : new int[] {1, 3, 5, 7, 9, 11, 13, 15, 2, 4, 6}) {
            x.tell(n);
        }
        due("22 eleven are well", NONE, x.judge(0));
        due("22 eleven are well", NONE, x.judge(1));
        x.tell(7);
        due("22 the 12th is next", 11, x.judge(0));
        due("22 it may not be", 0, x.judge(1));
        x.cut(11);
        x.tell(1);
        due("22 the 12th was rung in the year", 11, x.judge(0));
        x.cut(11);
        x.tell(16);
        due("22 the 12th is well", NONE, x.judge(0));
        x.book(2);
        due("22 the first means none", 0, x.judge(0));
        due("22 the first means none", 1, x.judge(1));
        x.ring(1);
        due("22 may not ahead of means none", 0, x.judge(0));
        due("22 may not ahead of means none", 0, x.judge(1));
        x.undo(0);
        x.ring(2);
        due("22 the first is next to today's", 0, x.judge(0));
        due("22 the first is next to today's", 0, x.judge(1));
        due("22 judge 2", BAD, x.judge(2));
        due("22 judge -1", BAD, x.judge(-1));
        x = told("most 4;book told;rung 4;");
        x.tell(0);
        due("22 silent is well", NONE, x.judge(0));
        x.tell(4);
        due("22 the second", 1, x.judge(0));
        due("22 the second", 0, x.judge(1));
        x = told("most 4;book rank;gap 2;");
        for (int n : new int[] {4, 1, 4, 0, 4, 4}) {
            x.tell(n);
        }
        due("22 by the gap", 5, x.judge(0));
        due("22 by the gap", 0, x.judge(1));
        x.gap(1);
        due("22 by a smaller gap", NONE, x.judge(0));
        x = told("most 4;rung" + " 0".repeat(60) + ";");
        x.tell(1);
        due("22 behind 60 days", NONE, x.judge(0));
        x.tell(1);
        due("22 behind 60 days", 1, x.judge(0));
    }

    // ---- plans

    private static void ask() {
        NeverAgain x = told("matters 4;");
        due("24 drop of none", 0, x.drop(0));
        due("24 drop 1 of none", BAD, x.drop(1));
        due("23 ask 4", BAD, x.ask(4));
        due("23 ask -1", BAD, x.ask(-1));
        for (int i = 1; i <= 5; i++) {
            due("23 ask", i, x.ask(i % 4));
        }
        due("23 the 6th", FULL, x.ask(3));
        due("23 bad ahead of full", BAD, x.ask(4));
        due("24 drop 6", BAD, x.drop(6));
        due("24 drop -1", BAD, x.drop(-1));
        due("24 drop 5", 5, x.drop(5));
        due("24 drop 4", 5, x.drop(4));
        due("24 drop 5 of 4", BAD, x.drop(5));
        due("23 the 5th", 5, x.ask(2));
        due("23 the 6th", FULL, x.ask(2));
        due("24 drop 0", 5, x.drop(0));
        due("24 of none", 0, x.count(1));
        x = told("matters 1;ask 0 0 0 0;");
        due("23 told and asked", 5, x.ask(0));
        due("23 one matter", BAD, x.ask(1));
    }

    private static void plan() {
        NeverAgain x = told("most 16;matters 1;ask 0 0 0 0 0;");
        int[] whats = {LOW, -1, 1, 9, 15, HIGH};
        for (int what : whats) {
            due("25 plan " + what, BAD, x.plan(what));
            due("26 byRule " + what, BAD, x.byRule(what));
        }
        due("25 five", 15, x.plan(0));
        due("26 five", 15, x.byRule(0));
        for (int asked = 5; asked >= 0; asked--) {
            x.drop(asked);
            due("25 strokes of " + asked, asked * (asked + 1) / 2, x.plan(0));
            due("26 strokes of " + asked, asked * (asked + 1) / 2, x.byRule(0));
            for (int i = 0; i < 5; i++) {
                due("25 day " + i + " of " + asked, i < asked ? i + 1 : NONE, x.plan(10 + i));
                due("26 day " + i + " of " + asked, i < asked ? i + 1 : NONE, x.byRule(10 + i));
            }
        }
        x = told("most 4;matters 1;ask 0 0 0 0;");
        due("25 all four", 10, x.plan(0));
        x.ask(0);
        due("25 a fifth there is not", NONE, x.plan(0));
        due("25 a fifth there is not", NONE, x.plan(10));
        due("26 a fifth there is not", NONE, x.byRule(0));
        due("26 a fifth there is not", NONE, x.byRule(10));
        due("25 bad ahead of none", BAD, x.plan(15));
        due("26 bad ahead of none", BAD, x.byRule(15));
        x = told("most 4;matters 1;ask 0 0 0 0 0;rung" + " 0".repeat(60) + ";gap 4;");
        due("25 behind 60 days", 11, x.plan(0));
        due("25 behind 60 days", 1, x.plan(14));
        due("26 behind 60 days", 11, x.byRule(0));
        x = told("most 4;matters 1;rung 2 1;ask 0;");
        due("25 behind the latest day", 3, x.plan(0));
        due("26 behind the latest day", 3, x.byRule(0));
    }

    /** The rule goes into a day without a number where a plan does not. */
    private static void planWhereTheRuleStops() {
        NeverAgain x = told("most 6;book told;page 1 0;page 5 0;page 2 1;near;ask 0 1;");
        due("26 stops", NONE, x.byRule(0));
        due("26 stops, the first day too", NONE, x.byRule(10));
        due("25 goes", 7, x.plan(0));
        due("25 goes", 5, x.plan(10));
        due("25 goes", 2, x.plan(11));
        due("25 not so many", NONE, x.plan(12));
        // matter 0 then 1 has a plan and does not go by rule: so it is no row of worst()
        due("27 rows by rule", 0, x.worst(2, 0));
        // 0 0 is 1 5 by both
        due("27 the row", 0, x.worst(2, 1));
        // 1 6 is found first, 4 2 has one stroke less
        x = told("most 6;book told;near;page 1 0;page 4 0;page 2 1;page 6 1;ask 0 1;");
        due("25 one stroke less", 6, x.plan(0));
        due("25 one stroke less", 4, x.plan(10));
        due("26 one stroke more", 7, x.byRule(0));
        // 3 12 10 7 by rule, 7 4 10 3 by plan
        x = told("most 12;matters 3;book told;near;page 3 0;page 7 0;page 4 1;page 12 1;page 10 2;ask 0 1 2 0;");
        due("26 four days", 32, x.byRule(0));
        due("26 four days", 7, x.byRule(13));
        due("25 four days", 24, x.plan(0));
        due("25 a number that another way rang earlier", 3, x.plan(13));
        // of 1 3 and 3 1 the first by numbers
        x = told("most 4;book told;near;page 1 0;page 2 0;page 3 0;ask 0 0;");
        due("25 fewest", 4, x.plan(0));
        due("25 the first", 1, x.plan(10));
        due("25 the first", 3, x.plan(11));
    }

    private static void worst() {
        NeverAgain x = told("most 16;matters 4;book told;page 16 3;page 15 3;page 14 3;");
        for (int n = 1; n <= 3; n++) {
            due("27 n " + n, 0, x.worst(n, 0));
            due("27 the highest row of " + n, (1 << (2 * n)) - 1, x.worst(n, 1));
        }
        due("27 n 0", BAD, x.worst(0, 0));
        due("27 n 4", BAD, x.worst(4, 0));
        due("27 n 0", BAD, x.worst(0, 1));
        due("27 what -1", BAD, x.worst(3, -1));
        due("27 what 2", BAD, x.worst(3, 2));
        x.ring(16);
        due("27 two are left", 15, x.worst(2, 1));
        due("27 no three", NONE, x.worst(3, 0));
        due("27 no three", NONE, x.worst(3, 1));
        x = told("most 4;matters 1;");
        due("27 one matter", 0, x.worst(3, 0));
        due("27 one matter, row 0", 0, x.worst(3, 1));
        x = told("most 4;matters 4;book told;");
        due("27 none", NONE, x.worst(1, 0));
        due("27 bad ahead of none", BAD, x.worst(4, 0));
        // 0 1 is 1 16 by rule and 4 2 by plan, 2 1 is 3 16 and 6 2
        x = told("most 16;matters 3;near;gap 1;book told;page 1 0;page 4 0;page 2 1;page 16 1;page 3 2;page 6 2;");
        due("27 of several the least", 11, x.worst(2, 0));
        due("27 of several the least", 1, x.worst(2, 1));
        x.write(4, NONE);
        due("27 the latter alone", 11, x.worst(2, 0));
        due("27 the latter alone", 9, x.worst(2, 1));
    }

    private static void mean() {
        NeverAgain x = told("most 16;matters 4 9 9 9 9;book told;");
        for (int n = 1; n <= 4; n++) {
            due("28 nothing is told on " + n, 17 * n, x.mean(n, 0));
            due("28 in lowest terms", 1, x.mean(n, 1));
        }
        due("28 n 0", BAD, x.mean(0, 0));
        due("28 n 5", BAD, x.mean(5, 0));
        due("28 n 0", BAD, x.mean(0, 1));
        due("28 what -1", BAD, x.mean(4, -1));
        due("28 what 2", BAD, x.mean(4, 2));
        x = told("most 4;matters 2 9 1;");
        // 1 by 9 and 2 by 1 of ten
        due("28 weights", 11, x.mean(1, 0));
        due("28 weights", 10, x.mean(1, 1));
        // 0 0 1 3, 0 1 1 2, 1 0 2 1, 1 1 2 4: 4 by 81, 3 by 9 twice, 6 by 1: 384 of 100
        due("28 two days", 96, x.mean(2, 0));
        due("28 two days", 25, x.mean(2, 1));
        x = told("most 4;matters 1 9;rung 1 2;");
        due("28 3 and 4", 7, x.mean(2, 0));
        due("28 then none", 12, x.mean(3, 0));
        due("28 none again", 17, x.mean(4, 0));
        due("28 by 1", 1, x.mean(4, 1));
        x = told("most 4;matters 1;gap 4;rung" + " 0".repeat(60) + ";");
        due("28 behind 60 days", 10, x.mean(4, 0));
        // the day is silent: so 3 is next to nothing on the day behind
        x = told("most 4;matters 1;near;gap 1;book told;page 3 0;rung 4;");
        due("28 silent", 5, x.mean(1, 0));
        due("28 silent, and 3", 8, x.mean(2, 0));
        due("28 silent, and 3 3", 11, x.mean(3, 0));
        x = told("most 16;matters 4 9 8 7 5;book rank;");
        due("28 the denominator is above 0", 29, x.mean(1, 1));
        due("28 9 16 21 20", 66, x.mean(1, 0));
    }

    // ---- who missed days

    private static void reads() {
        NeverAgain x = told("most 16;matters 4;book rank;rung 1 2 3 4 5 6 7 8 9 10 11;");
        for (int k = 0; k <= 10; k++) {
            for (int n = 1; n <= 16; n++) {
                int rung = 11 - k;
                due("29 missed " + k + ", " + n, n <= rung ? NONE : (n - rung - 1) % 4, x.reads(k, n));
            }
            int same = 0;
            for (int n = 12; n <= 16; n++) {
                same |= k % 4 == 0 ? 1 << n : 0;
            }
            due("30 missed " + k, same, x.alike(k));
        }
        due("29 k -1", BAD, x.reads(-1, 16));
        due("29 k 11", BAD, x.reads(11, 16));
        due("29 n 0", BAD, x.reads(10, 0));
        due("29 n 17", BAD, x.reads(10, 17));
        due("30 k -1", BAD, x.alike(-1));
        due("30 k 11", BAD, x.alike(11));
        x = told("most 4;book rank;");
        for (int k = 0; k <= 10; k++) {
            due("29 missed " + k + " of no days", 1, x.reads(k, 4));
            due("30 missed " + k + " of no days", upTo(4), x.alike(k));
        }
        x = told("most 4;book rank;rung 1;");
        due("29 one missed", 1, x.reads(1, 4));
        due("29 more than there were", 1, x.reads(2, 4));
        due("30 none is alike", 0, x.alike(1));
        due("30 none is alike", 0, x.alike(10));
        x = told("most 4;book rank;rung 1 2 3 4;");
        due("30 none may be rung", 0, x.alike(0));
        due("30 none may be rung", 0, x.alike(4));
        due("29 all may be to him", 1, x.reads(4, 4));
        // to him 3 is next to 4, which was rung on the day ahead of the missed one: it is silent
        x = told("most 4;near;gap 1;book rank;rung 4 1;");
        due("29 near the latest day", NONE, x.reads(0, 2));
        due("29 a missed day is near none", 1, x.reads(1, 2));
        due("29 the gap counts from its day", 0, told("most 4;gap 2;book rank;rung 1 2;").reads(0, 1));
        due("29 the gap counts from its day", NONE, told("most 4;gap 3;book rank;rung 1 2;").reads(1, 1));
        x = told("most 4;book told;page 4 1;rung 4;");
        due("29 told", 1, x.reads(0, 4));
        due("29 told", 1, x.reads(1, 4));
        due("29 told nothing", NONE, x.reads(1, 3));
        due("30 what means something may not be rung", 0, x.alike(1));
        x.book(0);
        due("30 fixed", bits(1, 2, 3), x.alike(1));
    }

    // ---- put off

    private static void stay() {
        NeverAgain x = told("matters 4;");
        due("32 none", 0, x.serve());
        due("31 matter 4", BAD, x.stay(4, 0));
        due("31 matter -1", BAD, x.stay(-1, 0));
        due("31 day 5", BAD, x.stay(3, 5));
        due("31 day -1", BAD, x.stay(3, -1));
        due("31 the last of both", 1, x.stay(3, 4));
        due("31 the first of both", 2, x.stay(0, 0));
        due("31 three", 3, x.stay(0, 4));
        due("31 four", 4, x.stay(0, 4));
        due("31 five", FULL, x.stay(0, 4));
        due("31 bad ahead of full", BAD, x.stay(4, 0));
        due("31 bad ahead of full", BAD, x.stay(0, 5));
        due("32 four", 4, x.serve());
        due("32 none", 0, x.serve());
        due("31 again", 1, x.stay(0, 0));
        x = told("matters 1;wait 0 0;wait 0 0;wait 0 0;");
        due("31 told and stays", 4, x.stay(0, 0));
        due("31 one matter", BAD, x.stay(1, 0));
        due("31 full", FULL, x.stay(0, 0));
    }

    private static void putOff() {
        NeverAgain x = told("most 4;matters 1;wait 0 4;wait 0 4;wait 0 4;wait 0 4;");
        for (int what : new int[] {LOW, -1, 1, 9, 14, 19, 24, HIGH}) {
            due("33 putOff " + what, BAD, x.putOff(what));
        }
        due("33 all four", 10, x.putOff(0));
        for (int i = 0; i < 4; i++) {
            due("33 day of " + i, i, x.putOff(10 + i));
            due("33 number of " + i, i + 1, x.putOff(20 + i));
        }
        x.ring(1);
        due("33 three numbers for four", NONE, x.putOff(0));
        due("33 three numbers for four", NONE, x.putOff(10));
        due("33 three numbers for four", NONE, x.putOff(23));
        due("33 bad ahead of none", BAD, x.putOff(24));
        for (int waits = 0; waits <= 4; waits++) {
            x = told("most 4;matters 1;" + "wait 0 4;".repeat(waits));
            for (int i = 0; i < 4; i++) {
                due("33 day of " + i + " of " + waits, i < waits ? i : NONE, x.putOff(10 + i));
                due("33 number of " + i + " of " + waits, i < waits ? i + 1 : NONE, x.putOff(20 + i));
            }
            due("33 strokes of " + waits, waits * (waits + 1) / 2, x.putOff(0));
        }
    }

    /** A number that is free on one day alone: the last day on which it may be told, and the day ahead. */
    private static void lastDays() {
        for (int until = 0; until <= 4; until++) {
            for (int gap = 1; gap <= 6; gap++) {
                NeverAgain x = told("most 4;matters 1;book told;page 4 0;rung 4;gap " + gap + ";wait 0 " + until + ";");
                int day = gap - 1;
                boolean goes = day <= until;
                due("33 gap " + gap + " until " + until, goes ? 4 : NONE, x.putOff(0));
                due("33 its day", goes ? day : NONE, x.putOff(10));
                due("33 its number", goes ? 4 : NONE, x.putOff(20));
            }
        }
        due("33 two on one day", NONE, told("wait 0 0;wait 1 0;").putOff(0));
        due("33 two on two days", 3, told("wait 0 0;wait 1 1;").putOff(0));
        due("33 three on two days", NONE, told("wait 0 1;wait 1 1;wait 0 1;").putOff(0));
        due("33 four on four days", 10, told("wait 0 3;wait 1 2;wait 0 1;wait 1 0;").putOff(0));
        due("33 four on three days", NONE, told("wait 0 2;wait 1 2;wait 0 1;wait 1 0;").putOff(0));
        NeverAgain x = told("most 4;matters 1;gap 4;rung 1 2 3 4;wait 0 4;rung" + " 0".repeat(56) + ";");
        due("33 behind 60 days", 1, x.putOff(0));
        due("33 behind 60 days", 0, x.putOff(10));
        // equal strokes: the one that was told first goes first, as soon as may be
        x = told("most 4;matters 2;book told;page 1 0;page 2 1;wait 1 4;wait 0 4;");
        due("33 the first that waits", 0, x.putOff(10));
        due("33 the other", 1, x.putOff(11));
        x = told("most 4;matters 2;near;book told;page 1 0;page 2 1;wait 1 4;wait 0 4;");
        due("33 a silent day between", 0, x.putOff(10));
        due("33 a silent day between", 2, x.putOff(11));
        x = told("most 4;matters 2;near;book told;page 1 0;page 2 1;wait 1 1;wait 0 1;");
        due("33 no day between", NONE, x.putOff(0));
        // of 1 3 and 3 1 on the same days the least number first
        x = told("most 4;matters 1;near;wait 0 1;wait 0 1;");
        due("33 of one the least number first", 4, x.putOff(0));
        due("33 of one the least number first", 1, x.putOff(20));
        due("33 of one the least number first", 3, x.putOff(21));
        // the one that waits first is ahead, though its number is greater
        x = told("most 4;matters 2;book told;page 4 1;page 1 0;page 2 0;wait 1 4;wait 0 4;");
        due("33 who waits is ahead of which number", 4, x.putOff(20));
        due("33 who waits is ahead of which number", 0, x.putOff(10));
        due("33 who waits is ahead of which number", 1, x.putOff(11));
        // 1 may be again on day 1: so the latter of both goes first
        x = told("most 4;matters 2;gap 2;book told;page 1 0;page 2 1;rung 1;wait 0 4;wait 1 4;");
        due("33 the first can not be yet", 1, x.putOff(10));
        due("33 the first can not be yet", 0, x.putOff(11));
        x = told("most 4;matters 2;near;book told;page 1 0;page 2 1;wait 1 4;wait 0 1;");
        due("33 the other is in haste", 2, x.putOff(10));
        due("33 the other is in haste", 0, x.putOff(11));
    }

    // ---- forgotten

    private static void forgotten() {
        NeverAgain x = told("most 16;");
        int[] least = {0, 1, 3, 6, 10, 15, 21};
        int[] most = {0, 16, 31, 45, 58, 70, 81};
        for (int n = 1; n <= 6; n++) {
            due("34 below the least " + n, 0, x.forgotten(n, least[n] - 1, 0));
            due("34 below the least " + n, NONE, x.forgotten(n, least[n] - 1, 1));
            due("34 below the least " + n, NONE, x.forgotten(n, least[n] - 1, 2));
            due("34 the least " + n, 1, x.forgotten(n, least[n], 0));
            due("34 the least " + n, upTo(n), x.forgotten(n, least[n], 1));
            due("34 the least " + n, upTo(n), x.forgotten(n, least[n], 2));
            due("34 the most " + n, 1, x.forgotten(n, most[n], 0));
            due("34 the most " + n, upTo(16) & ~upTo(16 - n), x.forgotten(n, most[n], 1));
            due("34 above the most " + n, 0, x.forgotten(n, most[n] + 1, 0));
            due("34 above the most " + n, NONE, x.forgotten(n, most[n] + 1, 2));
        }
        due("34 n 0", BAD, x.forgotten(0, 0, 0));
        due("34 n 7", BAD, x.forgotten(7, 28, 0));
        due("34 strokes -1", BAD, x.forgotten(1, -1, 0));
        due("34 strokes 0", 0, x.forgotten(6, 0, 0));
        due("34 strokes 100", 0, x.forgotten(6, 100, 0));
        due("34 strokes 100", NONE, x.forgotten(6, 100, 1));
        due("34 strokes 101", BAD, x.forgotten(6, 101, 0));
        due("34 what -1", BAD, x.forgotten(1, 1, -1));
        due("34 what 3", BAD, x.forgotten(1, 1, 3));
        due("34 bad ahead of none", BAD, x.forgotten(1, 101, 1));
        due("34 two that share none", 2, x.forgotten(2, 5, 0));
        due("34 two that share none", bits(1, 4), x.forgotten(2, 5, 1));
        due("34 no bits, not none", 0, x.forgotten(2, 5, 2));
        x = told("most 5;gap 1;rung 0 1 0 5 5;");
        due("34 2 3 4", 1, x.forgotten(3, 9, 0));
        due("34 five of three", 0, x.forgotten(5, 15, 0));
        due("34 the first is rung", 0, x.forgotten(1, 1, 0));
        due("34 the last is rung", NONE, x.forgotten(1, 5, 1));
        due("34 above the most", 0, x.forgotten(1, 6, 0));
        x = told("most 4;rung 1 2 3 4;");
        due("34 none is forgotten", 0, x.forgotten(1, 4, 0));
        due("34 none is forgotten", NONE, x.forgotten(1, 4, 1));
        x = told("most 4;rung" + " 1".repeat(59) + " 4;");
        due("34 the 60th day", 0, x.forgotten(1, 4, 0));
        x.undo(59);
        due("34 without it", 1, x.forgotten(1, 4, 0));
    }

    // ---- images, sheets

    private static void images() {
        NeverAgain x = new NeverAgain();
        due("36 none", STATE, x.back(0));
        due("36 k 2", BAD, x.back(2));
        due("36 k -1", BAD, x.back(-1));
        due("35 k 2", BAD, x.keep(2));
        due("35 k -1", BAD, x.keep(-1));
        due("41 none", 0, x.count(3));
        due("35 keep 0", 0, x.keep(0));
        due("41 one", 1, x.count(3));
        due("36 the other", STATE, x.back(1));
        due("35 keep 0 again", 1, x.keep(0));
        due("41 still one", 1, x.count(3));
        due("36 no days", 0, x.back(0));
        x.ring(12);
        due("35 keep 1", 0, x.keep(1));
        due("41 two", 2, x.count(3));
        due("36 no days", 0, x.back(0));
        due("36 the day is gone", 0, x.rule(5));
        due("36 one day", 1, x.back(1));
        due("36 the day", 12, x.day(0));
        due("41 both stay", 2, x.count(3));
        x = told("rung" + " 0".repeat(60) + ";ask 0 0 0 0 1;wait 0 0;wait 0 0;wait 0 0;wait 1 0;");
        x.keep(1);
        x.undo(0);
        x.drop(0);
        x.serve();
        x.feed(0);
        x.sheet(0, 0, 40);
        x.read(0, 1, 0, 1);
        x.ask(1);
        x.stay(1, 4);
        due("36 60 days", 60, x.back(1));
        due("36 full", FULL, x.ring(0));
        due("36 five are asked", FULL, x.ask(0));
        due("36 four wait", FULL, x.stay(0, 0));
        due("36 the tape stays", 8, x.count(4));
        due("36 sheets stay", 40, x.count(5));
        due("36 torn stays", 3, x.torn());
        imagesOfWhatIsTold();
    }

    private static void imagesOfWhatIsTold() {
        NeverAgain x = told("most 16;matters 4;book told;page 1 0;page 2 1;page 16 3;page 15 2;gap 5;"
            + "rung 16;ask 0 1 2;wait 0 1;wait 1 1;wait 3 4;");
        x.keep(0);
        x.write(16, NONE);
        x.write(15, 0);
        x.write(1, 1);
        x.write(2, 0);
        x.drop(1);
        x.ask(0);
        x.ask(1);
        x.serve();
        x.stay(1, 0);
        x.stay(0, 2);
        x.stay(2, 2);
        x.undo(0);
        x.keep(1);
        due("36 back", 1, x.back(0));
        due("36 page 16", 3, x.page(16));
        due("36 page 15", 2, x.page(15));
        due("36 page 1", 0, x.page(1));
        int[] plan = {1, 2, 15, NONE};
        for (int i = 0; i < 4; i++) {
            due("36 what is asked " + i, plan[i], x.plan(10 + i));
        }
        int[] days = {0, 1, 4, NONE};
        int[] numbers = {1, 2, 16, NONE};
        for (int i = 0; i < 4; i++) {
            due("36 what waits " + i, days[i], x.putOff(10 + i));
            due("36 what waits " + i, numbers[i], x.putOff(20 + i));
        }
        due("36 the other", 0, x.back(1));
        due("36 what else waits has no page", NONE, x.putOff(0));
        x.write(16, 2);
        int[] otherDays = {0, 1, 2, NONE};
        int[] otherNumbers = {1, 2, 16, NONE};
        for (int i = 0; i < 4; i++) {
            due("36 what else waits " + i, otherDays[i], x.putOff(10 + i));
            due("36 what else waits " + i, otherNumbers[i], x.putOff(20 + i));
        }
    }

    private static void sheet() {
        for (int lane = 0; lane < 3; lane++) {
            for (int n : new int[] {0, 1, 20, 39, 40}) {
                NeverAgain x = new NeverAgain();
                due("37 n " + n, 1, x.sheet(0, lane, n));
                due("41 cells", n, x.count(5));
                due("38 behind the last", -12, x.lay(0, n, 1));
                due("38 ahead of the first", -12, x.lay(0, -1, 1));
                due("38 the last", n == 0 ? -12 : 1, x.lay(0, n - 1, 1));
                due("38 the first", n == 0 ? -12 : 1, x.lay(0, 0, 1));
                due("37 n 41", BAD, x.sheet(0, lane, 41));
                due("37 n -1", -14, x.sheet(0, lane, -1));
                due("37 n low", -14, x.sheet(0, lane, LOW));
                due("37 n high", BAD, x.sheet(0, lane, HIGH));
                due("41 still there", n, x.count(5));
            }
        }
        NeverAgain x = new NeverAgain();
        for (int k = -1; k <= 4; k++) {
            boolean goes = k >= 0 && k <= 3;
            due("38 nothing in " + k, goes ? -11 : BAD, x.lay(k, 0, 1));
            due("37 k " + k, goes ? 1 : BAD, x.sheet(k, 0, 3));
            due("38 k " + k, goes ? 1 : BAD, x.lay(k, 2, 1));
        }
        due("37 lane 3", BAD, x.sheet(0, 3, 3));
        due("37 lane -1", BAD, x.sheet(0, -1, 3));
        due("37 k ahead of size", BAD, x.sheet(4, 0, -1));
        due("37 lane ahead of size", BAD, x.sheet(0, 3, -1));
        due("41 of sheet 0 alone", 3, x.count(5));
        x.sheet(1, 0, 9);
        due("41 of sheet 0 alone", 3, x.count(5));
        due("39 the cell that was laid", 1, x.read(0, 0, 2, 1));
        due("39 it is 1", 1, x.day(0));
        x.sheet(0, 0, 3);
        due("37 new cells are 0", 3, x.read(0, 0, 0, 3));
        due("37 new cells are 0", 0, x.day(3));
    }

    /** What a cell holds is told by whether the day can be rung: the lane's lowest bits alone. */
    private static void lowestBits() {
        int[][] rows = {
            {0, 12, 12}, {0, 127, BAD}, {0, 128, BAD}, {0, 255, BAD}, {0, 256, 0}, {0, 268, 12}, {0, -244, 12},
            {0, -256, 0}, {0, 65537, 1}, {0, LOW, 0}, {0, HIGH, BAD}, {0, -1, BAD}, {0, 13, BAD},
            {1, 12, 12}, {1, 256, BAD}, {1, 32767, BAD}, {1, 32768, BAD}, {1, 65535, BAD}, {1, 65536, 0}, {1, 65548, 12},
            {1, -65524, 12}, {1, -65536, 0}, {1, LOW, 0}, {1, HIGH, BAD}, {1, -1, BAD}, {1, 268, BAD},
            {2, 12, 12}, {2, 256, BAD}, {2, 65536, BAD}, {2, 65548, BAD}, {2, LOW, BAD}, {2, HIGH, BAD}, {2, -1, BAD},
            {2, 0, 0}, {2, 13, BAD}, {2, 1, 1},
        };
        for (int[] row : rows) {
            NeverAgain x = new NeverAgain();
            x.sheet(2, row[0], 1);
            due("38 lay " + row[1] + " in lane " + row[0], 1, x.lay(2, 0, row[1]));
            due("39 read " + row[1] + " in lane " + row[0], row[2] == BAD ? -20 : 1, x.read(2, row[0], 0, 1));
            due("39 the day of " + row[1], row[2], x.day(0));
            due("40 no fault", 0, x.torn());
        }
    }

    private static void read() {
        NeverAgain x = told("most 4;gap 1;");
        x.sheet(0, 2, 40);
        for (int i = 0; i < 40; i++) {
            x.lay(0, i, i % 5);
        }
        due("39 n -1", BAD, x.read(0, 2, 0, -1));
        due("39 n 21", BAD, x.read(0, 2, 0, 21));
        due("39 n 0", 0, x.read(0, 2, 0, 0));
        due("39 n 1", 1, x.read(0, 2, 39, 1));
        due("39 the last cell", 4, x.day(0));
        due("39 n 20", 20, x.read(0, 2, 20, 20));
        due("40 none", 0, x.torn());
        for (int t = 0; t < 20; t++) {
            due("39 day " + t, t % 5, x.day(1 + t));
        }
        due("39 one behind the last", 19, x.read(0, 2, 21, 20));
        due("40 index", 2, x.torn());
        due("39 those ahead went", 40, x.rule(5));
        due("39 the 41st cell", 0, x.read(0, 2, 40, 1));
        due("40 index", 2, x.torn());
        due("39 up to 60", 20, x.read(0, 2, 0, 20));
        due("40 none", 0, x.torn());
        due("39 full", -20, x.read(0, 2, 0, 1));
        due("39 full, of none", 0, x.read(0, 2, 0, 0));
        due("39 index ahead of full", 0, x.read(0, 2, -1, 1));
        due("40 index", 2, x.torn());
        x.undo(59);
        due("39 the 61st", -21, x.read(0, 2, 0, 2));
        due("39 none goes", 59, x.rule(5));
        due("39 the 60th", 1, x.read(0, 2, 0, 1));
        for (int k = -1; k <= 4; k++) {
            due("39 k " + k, k < 0 || k > 3 ? BAD : 0, x.read(k, 0, 0, 0));
        }
        for (int lane = -1; lane <= 3; lane++) {
            due("39 lane " + lane, lane < 0 || lane > 2 ? BAD : 0, x.read(0, lane, 0, 0));
        }
        for (int f : new int[] {LOW, -21, -1, 40, 41, HIGH - 19, HIGH}) {
            due("39 from cell " + f, 0, x.read(0, 2, f, 20));
            due("40 from cell " + f, 2, x.torn());
        }
    }

    private static void torn() {
        for (int lane = 0; lane < 3; lane++) {
            for (int as = 0; as < 3; as++) {
                NeverAgain x = new NeverAgain();
                x.sheet(1, lane, 2);
                due("39 lane " + lane + " as " + as, lane == as ? 2 : 0, x.read(1, as, 0, 3));
                due("40 lane " + lane + " as " + as, lane == as ? 2 : 3, x.torn());
                due("39 lane " + lane + " as " + as, 0, x.read(1, as, 2, 1));
                due("40 cast ahead of index", lane == as ? 2 : 3, x.torn());
                due("39 no days", 0, x.read(1, as, 2, 0));
                due("40 no days", 0, x.torn());
                due("39 nothing", 0, x.read(0, as, -1, 1));
                due("40 null ahead of index", 1, x.torn());
            }
        }
        NeverAgain x = new NeverAgain();
        due("40 at first", 0, x.torn());
        x.read(0, 0, 0, 1);
        due("40 null", 1, x.torn());
        x.lay(0, 0, 0);
        x.sheet(0, 0, -1);
        due("40 lay and sheet are no read", 1, x.torn());
        x.read(0, 0, 0, 21);
        x.read(4, 0, 0, 1);
        due("40 a bad read did not come to an end", 1, x.torn());
        x.sheet(0, 0, 1);
        x.lay(0, 0, 13);
        due("39 refused", -20, x.read(0, 0, 0, 1));
        due("40 a refused read did not come to an end", 1, x.torn());
        x.lay(0, 0, 5);
        due("39 goes, and the next is not there", 1, x.read(0, 0, 0, 2));
        due("40 index", 2, x.torn());
        due("39 refused, ahead of what is not there", -20, x.read(0, 0, 0, 2));
        due("40 stays", 2, x.torn());
        x.lay(0, 0, 0);
        due("39 goes", 1, x.read(0, 0, 0, 1));
        due("40 none", 0, x.torn());
    }

    /** Days are read one behind another: each by all days ahead of it, those just read too. */
    private static void readAsByRing() {
        NeverAgain x = told("most 6;gap 3;near;");
        x.sheet(3, 1, 6);
        int[] cells = {1, 3, 5, 1, 0, 2};
        for (int i = 0; i < 6; i++) {
            x.lay(3, i, cells[i]);
        }
        due("39 all go", 6, x.read(3, 1, 0, 6));
        x.undo(0);
        x.lay(3, 4, 2);
        due("39 day 4 is next", -24, x.read(3, 1, 0, 6));
        due("39 none goes", 0, x.rule(5));
        due("39 four go", 4, x.read(3, 1, 0, 4));
        x.undo(0);
        x.lay(3, 2, 1);
        due("39 day 2 is ahead of its gap", -22, x.read(3, 1, 0, 6));
        x.lay(3, 0, 7);
        due("39 day 0 is no number", -20, x.read(3, 1, 0, 6));
        x.lay(3, 0, 6);
        due("39 6 is the last", 1, x.read(3, 1, 0, 1));
    }

    private static void count() {
        NeverAgain x = told("most 16;matters 4;rung" + " 16".repeat(60) + ";ask 0 0 0 0 0;");
        due("41 all strokes", 960, x.count(6));
        due("41 asked", 5, x.count(1));
        due("41 what 7", BAD, x.count(7));
        due("41 what -1", BAD, x.count(-1));
        due("41 nothing", NONE, x.count(5));
        x.sheet(3, 0, 4);
        due("41 sheet 0 alone", NONE, x.count(5));
        x.sheet(0, 0, 0);
        due("41 no cells is not nothing", 0, x.count(5));
        x.undo(0);
        due("41 no strokes", 0, x.count(6));
        for (int i = 0; i < 50; i++) {
            x.feed(-1);
        }
        due("41 bytes", 400, x.count(4));
        for (int i = 0; i < 12; i++) {
            x.tell(0);
        }
        due("41 the year", 12, x.count(0));
        for (int i = 0; i < 4; i++) {
            x.stay(3, 4);
        }
        due("41 that wait", 4, x.count(2));
        x.keep(1);
        due("41 images", 1, x.count(3));
        x.keep(0);
        due("41 images", 2, x.count(3));
    }

    public static void main(String[] args) {
        newObject();
        feed();
        end();
        asked();
        changed();
        write();
        undo();
        gaps();
        nears();
        means();
        cheap();
        ring();
        holds();
        year();
        judge();
        ask();
        plan();
        planWhereTheRuleStops();
        worst();
        mean();
        reads();
        stay();
        putOff();
        lastDays();
        forgotten();
        images();
        sheet();
        lowestBits();
        read();
        torn();
        readAsByRing();
        count();
        C.close();
    }
}
