/** Each promise by its number: ordinary inputs, the edges that the document names, wrong inputs. */
public final class PromisesTest {
    private static final int BAD = -1, STATE = -2, FULL = -3, NONE = -4;
    private static final int LOW = Integer.MIN_VALUE, HIGH = Integer.MAX_VALUE;
    private static final Checks C = new Checks("PromisesTest");

    private static void due(String call, long want, long got) {
        C.due(call, want, got);
    }

    private static NeverAgain told(String text) {
        return Checks.told(text);
    }

    private static int bits(int... numbers) {
        return Checks.bits(numbers);
    }

    private static void newObject() {
        NeverAgain x = new NeverAgain();
        int[] rules = {12, 2, 0, 0, 0, 0};
        for (int i = 0; i < 6; i++) {
            due("1 rule " + i, rules[i], x.rule(i));
        }
        int[] counts = {0, 0, 0, 0, 0, NONE, 0};
        for (int i = 0; i < 7; i++) {
            due("1 count " + i, counts[i], x.count(i));
        }
        due("1 weight 0", 1, x.weight(0));
        due("1 weight 1", 1, x.weight(1));
        due("1 page 12", NONE, x.page(12));
        due("1 fault", 0, x.fault());
        due("1 torn", 0, x.torn());
        due("1 may", 8190, x.may());
        for (int k = 0; k < 4; k++) {
            due("1 lay " + k, -11, x.lay(k, 0, 0));
        }
    }

    private static void feed() {
        NeverAgain x = new NeverAgain();
        for (int i = 1; i <= 50; i++) {
            due("2 feed", 8 * i, x.feed(-1L >>> i));
        }
        due("2 feed full", FULL, x.feed(0));
        due("2 full changes nothing", 400, x.count(4));
        x.end(393);
        due("2 feed 401", FULL, x.feed(0));
        x.end(392);
        due("2 feed 400", 400, x.feed(0));
        NeverAgain y = new NeverAgain();
        // "gap 7 ; " with the highest byte first
        due("2 order", 8, y.feed(0x6761702037203b20L));
        due("2 order text", 1, y.text());
        due("2 order gap", 7, y.rule(2));
    }

    private static void end() {
        NeverAgain x = new NeverAgain();
        due("3 end 0", 0, x.end(0));
        due("3 end 1 of none", BAD, x.end(1));
        x.feed(0);
        due("3 end 9", BAD, x.end(9));
        due("3 end -1", BAD, x.end(-1));
        due("3 end low", BAD, x.end(LOW));
        due("3 end 8", 8, x.end(8));
        due("3 end 3", 8, x.end(3));
        due("3 kept", 3, x.count(4));
        due("3 feed behind", 11, x.feed(0));
    }

    private static void text() {
        NeverAgain x = told("most 5;matters 3 9 8;gap 4;near;book told;page 5 2;page 1 0;rung 5 5;rung 0 1;"
            + "ask 2 1;ask 0;wait 2 4;wait 0 0;");
        int[] rules = {5, 3, 4, 1, 2, 4};
        for (int i = 0; i < 6; i++) {
            due("4 rule " + i, rules[i], x.rule(i));
        }
        due("4 weight 0", 9, x.weight(0));
        due("4 weight 2", 1, x.weight(2));
        due("4 day 3", 1, x.day(3));
        due("4 page 5", 2, x.page(5));
        due("4 asked", 3, x.count(1));
        due("4 wait", 2, x.count(2));
        due("4 tape", 0, x.count(4));
        x.tell(1);
        x.keep(0);
        x.sheet(0, 1, 7);
        due("4 a fault", -14, Checks.tell(x, "gap 21;"));
        due("4 the fault", 3, x.fault());
        due("4 tape empty", 0, x.count(4));
        due("4 stays most", 5, x.rule(0));
        due("4 stays year", 1, x.count(0));
        due("4 stays image", 1, x.count(3));
        due("4 no lines", 0, x.text());
        due("4 fault gone", 0, x.fault());
        due("4 in place: most", 12, x.rule(0));
        due("4 in place: near", 0, x.rule(3));
        due("4 in place: weight", 1, x.weight(0));
        due("4 in place: page", NONE, x.page(5));
        due("4 in place: days", 0, x.rule(5));
        due("4 in place: asked", 0, x.count(1));
        due("4 in place: wait", 0, x.count(2));
        due("4 no year", 0, x.count(0));
        due("4 no images", 0, x.count(3));
        due("4 back", STATE, x.back(0));
        due("4 sheets stay", 7, x.count(5));
        due("4 blanks need not be", 3, Checks.tell(x, "gap3;near;rung1 2 3   ;"));
        due("4 blanks alone", 0, Checks.tell(x, "        "));
        due("4 figures", 1, Checks.tell(x, "gap 07;"));
        due("4 gap 7", 7, x.rule(2));
        due("4 matters 4", 1, Checks.tell(x, "matters 4 1 2 3 4;"));
        due("4 weight 3", 4, x.weight(3));
    }

    private static void fault() {
        Object[][] rows = {
            {"Most 4;", 1, 0}, {"gap 1\t;", 1, 5}, {"gap 100;", 1, 4}, {"gap 21\u00ff", 3, 4}, {"gap 2\u00ff", 1, 5},
            {"rung 1 222;", 1, 7}, {"ask 9 999;", 3, 4}, {";", 2, 0}, {"5;", 2, 0}, {"gaps 1;", 2, 0},
            {"ga 1;", 2, 0}, {"gap;", 2, 3}, {"gap 1", 2, 5}, {"gap 1   ", 2, 8}, {"gap", 2, 3}, {"gap 1 2;", 2, 6},
            {"near 1;", 2, 5}, {"near near;", 2, 5}, {"book;", 2, 4}, {"book 1;", 2, 5}, {"book ranks;", 2, 5},
            {"book rank rank;", 2, 10}, {"page 1;", 2, 6}, {"page 1 0 0;", 2, 9}, {"rung;", 2, 4}, {"rung 1 near;", 2, 7},
            {"ask;", 2, 3}, {"matters;", 2, 7}, {"wait 0;", 2, 6}, {"wait 0 0 0;", 2, 9}, {"rung 1", 2, 6},
            {"most 3;", 3, 5}, {"most 17;", 3, 5}, {"matters 0;", 3, 8}, {"matters 5;", 3, 8}, {"matters 2 10;", 3, 10},
            {"matters 2 0;", 3, 10}, {"page 0 0;", 3, 5}, {"page 17 0;", 3, 5}, {"page 1 4;", 3, 7}, {"rung 17;", 3, 5},
            {"ask 4;", 3, 4}, {"wait 4 0;", 3, 5}, {"wait 0 5;", 3, 7}, {"gap 0;gap 99;", 4, 6}, {"most 4;most", 4, 7},
            {"matters 1;matters 0;", 4, 10}, {"near;near;", 4, 5}, {"book told;book old;", 4, 10},
            {"page 2 0;page 2 9;", 4, 14}, {"page 2 0;page 02 0;", 4, 14}, {"matters 1 2 3;", 5, 12},
            {"matters 4 1 1 1 1 1;", 5, 18}, {"ask 0 1;ask 0 1 0 1;", 5, 18},
            {"wait 0 0;wait 0 0;wait 0 0;wait 0 0;wait 9 9;", 5, 36}, {"page 13 0;", 6, 10}, {"page 1 2;", 6, 9},
            {"rung 13;", 6, 8}, {"ask 2; ", 6, 7}, {"wait 2 0;", 6, 9}, {"rung 5;most 4;", 6, 14},
            {"matters 3;ask 0 3;  ", 6, 20}, {"ask 3;gap 21;", 3, 10},
            {"z;", 2, 0}, {"a", 2, 0}, {"`;", 1, 0}, {"{;", 1, 0}, {"/", 1, 0}, {":", 1, 0}, {"\u0000", 1, 0},
            {"gap 1;\n", 1, 6}, {"ask 0 4;", 3, 6}, {"rung 0 17;", 3, 7}, {"matters 2 1 1 0;", 3, 14},
            {"ask 0 0 0 0 0 4;", 3, 14}, {"book fixed;book fixed;", 4, 11},
        };
        NeverAgain x = new NeverAgain();
        for (Object[] row : rows) {
            int kind = (Integer) row[1];
            int place = (Integer) row[2];
            due("4 place in " + row[0], -10 - place, Checks.tell(x, (String) row[0]));
            due("5 fault of " + row[0], kind, x.fault());
        }
        due("5 well", 1, Checks.tell(x, "rung 16;most 16;".substring(8)));
        due("5 none", 0, x.fault());
        due("4 later most", 2, Checks.tell(x, "rung 16;most 16;"));
        due("4 book fixed", 1, Checks.tell(x, "book fixed;"));
        manyDays(x);
        leftovers(x);
    }

    /** What an earlier text told is no part of a later one's. */
    private static void leftovers(NeverAgain x) {
        String large = "most 16;matters 4;rung 16 16;ask 3 3;wait 3 0;wait 3 0;page 16 3;";
        due("4 large", 7, Checks.tell(x, large));
        due("4 large", 7, Checks.tell(x, large));
        due("4 small", 2, Checks.tell(x, "most 4;matters 1;"));
        due("4 small", 2, Checks.tell(x, "most 4;matters 1;"));
        due("4 small page", NONE, x.page(4));
    }

    private static void manyDays(NeverAgain x) {
        String thirty = "rung" + " 0".repeat(30) + ";";
        due("4 60 days", 2, Checks.tell(x, thirty + thirty));
        due("4 60 days", 60, x.rule(5));
        due("4 61 days", -10 - 2 * thirty.length() - 5, Checks.tell(x, thirty + thirty + "rung 0;"));
        due("5 61 days", 5, x.fault());
    }

    private static void asked() {
        NeverAgain x = told("most 9;matters 3 4 5 6;gap 2;book rank;rung 3 0 9;page 9 1;");
        int[] rules = {9, 3, 2, 0, 1, 3};
        for (int i = 0; i < 6; i++) {
            due("6 rule " + i, rules[i], x.rule(i));
        }
        due("6 rule 6", BAD, x.rule(6));
        due("6 rule -1", BAD, x.rule(-1));
        due("7 day 0", 3, x.day(0));
        due("7 day 1", 0, x.day(1));
        due("7 day 2", 9, x.day(2));
        due("7 day 3", BAD, x.day(3));
        due("7 day -1", BAD, x.day(-1));
        due("7 day high", BAD, x.day(HIGH));
        due("8 weight 0", 4, x.weight(0));
        due("8 weight 2", 6, x.weight(2));
        due("8 weight 3", BAD, x.weight(3));
        due("8 weight -1", BAD, x.weight(-1));
        due("9 page 9", 1, x.page(9));
        due("9 page 8", NONE, x.page(8));
        due("9 page 10", BAD, x.page(10));
        due("9 page 0", BAD, x.page(0));
    }

    private static void changed() {
        NeverAgain x = new NeverAgain();
        due("10 gap 20", 0, x.gap(20));
        due("10 gap 21", BAD, x.gap(21));
        due("10 gap -1", BAD, x.gap(-1));
        due("10 gap 0", 20, x.gap(0));
        due("11 near 1", 0, x.near(1));
        due("11 near 2", BAD, x.near(2));
        due("11 near -1", BAD, x.near(-1));
        due("11 near 0", 1, x.near(0));
        due("12 book 2", 0, x.book(2));
        due("12 book 3", BAD, x.book(3));
        due("12 book -1", BAD, x.book(-1));
        due("12 book 1", 2, x.book(1));
        due("13 write", NONE, x.write(12, 1));
        due("13 write again", 1, x.write(12, 0));
        due("13 write nothing", 0, x.write(12, NONE));
        due("13 nothing", NONE, x.page(12));
        due("13 write number 13", BAD, x.write(13, 0));
        due("13 write number 0", BAD, x.write(0, 0));
        due("13 write matter 2", BAD, x.write(1, 2));
        due("13 write matter -1", BAD, x.write(1, -1));
        due("13 write matter -3", BAD, x.write(1, -3));
        due("13 bad changes nothing", NONE, x.page(1));
        x.book(0);
        x.ring(1);
        x.ring(2);
        due("14 undo 3", BAD, x.undo(3));
        due("14 undo -1", BAD, x.undo(-1));
        due("14 undo 2", 2, x.undo(2));
        due("14 undo 1", 2, x.undo(1));
        due("14 days", 1, x.rule(5));
        due("14 rung again", 1, x.ring(2));
        due("14 undo 0", 2, x.undo(0));
    }

    private static void days() {
        NeverAgain x = told("most 6;rung 2 4 0 3;");
        due("15 never again", bits(1, 5, 6), x.may());
        x.near(1);
        due("15 near 3", bits(1, 5, 6), x.may());
        x.gap(1);
        due("15 gap 1", bits(1, 3, 5, 6), x.may());
        x.gap(2);
        due("15 gap 2", bits(1, 5, 6), x.may());
        x.near(0);
        x.gap(3);
        due("15 gap 3", bits(1, 2, 4, 5, 6), x.may());
        x.gap(4);
        due("15 gap 4", bits(1, 2, 5, 6), x.may());
        x.gap(5);
        due("15 gap 5", bits(1, 5, 6), x.may());
        x.near(1);
        x.ring(0);
        due("15 near a silent day", bits(1, 2, 5, 6), x.may());
        x = told("most 4;near;gap 1;rung 4;");
        due("15 near the most", bits(1, 2, 4), x.may());
        x = told("most 4;near;gap 1;rung 1;");
        due("15 near 1", bits(1, 3, 4), x.may());
    }

    private static void meanings() {
        NeverAgain x = told("most 7;matters 3;rung 1 3;page 1 2;page 2 1;");
        int[] fixed = {0, 1, 2, 0, 1, 2, 0};
        int[] rank = {NONE, 0, NONE, 1, 2, 0, 1};
        int[] pages = {2, 1, NONE, NONE, NONE, NONE, NONE};
        for (int n = 1; n <= 7; n++) {
            x.book(0);
            due("16 fixed " + n, fixed[n - 1], x.means(n));
            x.book(1);
            due("16 rank " + n, rank[n - 1], x.means(n));
            x.book(2);
            due("16 told " + n, pages[n - 1], x.means(n));
        }
        due("16 means 0", BAD, x.means(0));
        due("16 means 8", BAD, x.means(8));
        due("17 told 1", 2, x.cheap(1));
        due("17 told 2 is rung", NONE, x.cheap(2));
        due("17 told 0", NONE, x.cheap(0));
        x.book(0);
        due("17 fixed 0", 4, x.cheap(0));
        x.book(1);
        due("17 rank 2", 5, x.cheap(2));
        due("17 cheap 3", BAD, x.cheap(3));
        due("17 cheap -1", BAD, x.cheap(-1));
    }

    private static void sixteen() {
        NeverAgain x = told("most 16;matters 4 1 2 3 9;book told;page 16 3;page 15 3;wait 3 4;ask 3;");
        due("15 sixteen", 131070, x.may());
        due("16 sixteen", 3, x.means(16));
        due("9 sixteen", 3, x.page(16));
        due("9 seventeen", BAD, x.page(17));
        due("8 weight 3", 9, x.weight(3));
        due("8 weight 4", BAD, x.weight(4));
        due("18 fifteen", 3, x.ring(15));
        due("25 sixteen", 16, x.plan(0));
        due("33 sixteen", 16, x.putOff(20));
        due("18 sixteen", 3, x.ring(16));
        due("25 none", NONE, x.plan(0));
        due("33 none", NONE, x.putOff(0));
        due("15 two are rung", 32766, x.may());
    }

    private static void lastWaitDay() {
        NeverAgain x = told("most 4;matters 1;gap 4;rung 1 2 3 4;wait 0 4;wait 0 4;wait 0 4;wait 0 4;");
        due("33 1 again on day 4", 1 + 2 + 3 + 1, x.putOff(0));
        due("33 1 again on day 4", 4, x.putOff(13));
        x = told("most 4;matters 1;gap 8;rung 1 2 3 4;wait 0 4;");
        due("33 day 4 is the first that may be", 4, x.putOff(10));
        due("33 day 4", 1, x.putOff(20));
        x = told("most 4;matters 1;gap 9;rung 1 2 3 4;wait 0 4;");
        due("33 day 5 is too late", NONE, x.putOff(0));
    }

    private static void ring() {
        NeverAgain x = told("most 4;book told;page 2 1;");
        due("18 ring 2", 1, x.ring(2));
        due("18 ring 2 again", STATE, x.ring(2));
        due("18 ring 3", NONE, x.ring(3));
        due("18 silent", NONE, x.ring(0));
        due("18 ring 5", BAD, x.ring(5));
        due("18 ring -1", BAD, x.ring(-1));
        due("18 days", 3, x.rule(5));
        x = told("most 4;gap 2;near;book rank;rung 2;");
        due("18 near", STATE, x.ring(3));
        due("18 rank by today", 0, x.ring(4));
        due("18 gap", 1, x.ring(2));
        x = told("rung 1" + " 0".repeat(58) + ";");
        due("18 the 60th", 1, x.ring(2));
        due("18 full", FULL, x.ring(3));
        due("18 silent full", FULL, x.ring(0));
        due("18 state ahead of full", STATE, x.ring(1));
        due("18 bad ahead of full", BAD, x.ring(13));
        due("18 days", 60, x.rule(5));
        due("15 today behind 60 days", 8190 & ~bits(1, 2), x.may());
    }

    private static void holds() {
        due("19 new", 12, new NeverAgain().holds());
        due("19 rung", 2, told("most 4;rung 1 3 0;").holds());
        due("19 gap 4", 61, told("most 4;gap 4;").holds());
        due("19 gap 5", 4, told("most 4;gap 5;").holds());
        // 1 3 and then 2 and 4 are next to 3, 1 and 3 are rung
        due("19 near", 2, told("most 4;near;").holds());
        due("19 near, silent day", 3, told("most 4;near;rung 3 0;").holds());
        due("19 none", 0, told("most 4;rung 1 2 3 4;").holds());
        due("19 behind 60 days", 61, told("most 4;gap 1;rung" + " 0".repeat(60) + ";").holds());
        NeverAgain x = told("most 4;");
        x.holds();
        due("19 rings nothing", 0, x.rule(5));
    }

    private static void year() {
        NeverAgain x = told("most 5;rung 5;");
        due("22 no year", NONE, x.judge(0));
        for (int i = 1; i <= 12; i++) {
            due("20 tell", i, x.tell(i == 2 ? 0 : i == 1 ? 5 : 4));
        }
        due("20 full", FULL, x.tell(1));
        due("20 bad ahead of full", BAD, x.tell(6));
        due("20 bad", BAD, x.tell(-1));
        due("22 rung", 0, x.judge(0));
        due("22 may not", 0, x.judge(1));
        due("22 judge 2", BAD, x.judge(2));
        due("22 judge -1", BAD, x.judge(-1));
        due("21 cut 13", BAD, x.cut(13));
        due("21 cut -1", BAD, x.cut(-1));
        due("21 cut 12", 12, x.cut(12));
        due("21 cut 4", 12, x.cut(4));
        x.undo(0);
        due("22 again", 3, x.judge(0));
        due("21 cut 3", 4, x.cut(3));
        due("22 well", NONE, x.judge(0));
        due("22 well", NONE, x.judge(1));
        x.book(2);
        due("22 means none", 0, x.judge(0));
        due("22 means none", 1, x.judge(1));
        x.write(5, 0);
        due("22 means none later", 2, x.judge(0));
        due("22 means none later", 1, x.judge(1));
        due("21 cut 0", 3, x.cut(0));
        due("22 of none", NONE, x.judge(1));
        x = told("most 4;near;gap 1;");
        x.tell(2);
        x.tell(0);
        x.tell(3);
        x.tell(4);
        due("22 near", 3, x.judge(0));
        due("22 near", 0, x.judge(1));
    }

    private static void plans() {
        NeverAgain x = told("most 4;matters 2;");
        due("25 of none", 0, x.plan(0));
        due("25 day 0 of none", NONE, x.plan(10));
        due("26 of none", 0, x.byRule(0));
        for (int i = 1; i <= 4; i++) {
            due("23 ask", i, x.ask(i % 2));
        }
        due("23 ask 2", BAD, x.ask(2));
        due("23 ask -1", BAD, x.ask(-1));
        due("23 ask", 5, x.ask(0));
        due("23 full", FULL, x.ask(0));
        due("23 bad ahead of full", BAD, x.ask(2));
        due("25 none", NONE, x.plan(0));
        due("25 none", NONE, x.plan(10));
        due("26 none", NONE, x.byRule(0));
        due("26 none, the first day too", NONE, x.byRule(10));
        due("24 drop 6", BAD, x.drop(6));
        due("24 drop -1", BAD, x.drop(-1));
        due("24 drop 5", 5, x.drop(5));
        due("24 drop 3", 5, x.drop(3));
        due("24 asked", 3, x.count(1));
        due("25 plan", 2 + 1 + 4, x.plan(0));
        due("25 day 2", 4, x.plan(12));
        due("25 not so many", NONE, x.plan(13));
        due("25 plan 15", BAD, x.plan(15));
        due("25 plan 9", BAD, x.plan(9));
        due("25 plan 1", BAD, x.plan(1));
        due("26 byRule 15", BAD, x.byRule(15));
        due("26 byRule -1", BAD, x.byRule(-1));
        due("24 drop 0", 3, x.drop(0));
        planBesideRule();
    }

    private static void planBesideRule() {
        // 1 today makes 2, which alone tells 1 cheaply, impossible tomorrow
        NeverAgain x = told("most 9;near;gap 1;book told;page 1 0;page 4 0;page 2 1;page 9 1;ask 0 1;");
        due("26 by rule", 10, x.byRule(0));
        due("26 first", 1, x.byRule(10));
        due("26 second", 9, x.byRule(11));
        due("26 third", NONE, x.byRule(12));
        due("25 plan", 6, x.plan(0));
        due("25 first", 4, x.plan(10));
        due("25 second", 2, x.plan(11));
        due("27 worst 2", 4, x.worst(2, 0));
        due("27 row", 1, x.worst(2, 1));
        due("27 worst 1", 0, x.worst(1, 0));
        due("27 row of one", 0, x.worst(1, 1));
        // of several plans with 5 strokes, 1 4 is the first
        x = told("most 4;gap 1;book told;page 1 0;page 4 0;page 3 0;ask 0 0;");
        due("25 two", 2, x.plan(0));
        x = told("most 4;book told;page 4 0;page 3 0;page 2 0;ask 0 0 0;");
        due("25 several", 9, x.plan(0));
        due("25 the first by numbers", 2, x.plan(10));
        due("25 the first by numbers", 4, x.plan(12));
    }

    private static void worst() {
        NeverAgain x = told("most 4;matters 4;");
        due("27 three", 0, x.worst(3, 0));
        due("27 three, the least row", 6, x.worst(3, 1));
        due("27 n 0", BAD, x.worst(0, 0));
        due("27 n 4", BAD, x.worst(4, 0));
        due("27 what 2", BAD, x.worst(1, 2));
        due("27 what -1", BAD, x.worst(1, -1));
        x = told("most 4;rung 1 2 3 4;");
        due("27 none", NONE, x.worst(1, 0));
        due("27 none", NONE, x.worst(1, 1));
        x = told("most 4;rung 1 2 3;");
        due("27 one is left", 0, x.worst(1, 0));
        due("27 it tells 1", 1, x.worst(1, 1));
        due("27 not two", NONE, x.worst(2, 0));
    }

    private static void mean() {
        NeverAgain x = told("most 4;matters 2 1 2;");
        due("28 one", 5, x.mean(1, 0));
        due("28 one", 3, x.mean(1, 1));
        // 0 0: 1 3, 0 1: 1 2, 1 0: 2 1, 1 1: 2 4
        due("28 two", 4 + 6 + 6 + 24, x.mean(2, 0));
        due("28 two", 9, x.mean(2, 1));
        due("28 four", 81, x.mean(4, 1));
        due("28 n 0", BAD, x.mean(0, 0));
        due("28 n 5", BAD, x.mean(5, 0));
        due("28 what 2", BAD, x.mean(1, 2));
        due("28 what -1", BAD, x.mean(1, -1));
        x = told("most 4;matters 1;rung 1 2 3;");
        due("28 the rule has none", 4 + 5, x.mean(2, 0));
        due("28 lowest terms", 1, x.mean(2, 1));
        // a silent day lets the number next to it be
        x = told("most 4;matters 1;near;book told;page 3 0;rung 2;");
        due("28 silent", 5 + 3, x.mean(2, 0));
        due("28 rings nothing", 1, x.rule(5));
    }

    private static void missed() {
        NeverAgain x = told("most 6;book rank;rung 1 0 4;");
        int[] now = {NONE, 0, 1, NONE, 0, 1};
        int[] one = {NONE, 0, 1, 0, 1, 0};
        int[] all = {0, 1, 0, 1, 0, 1};
        for (int n = 1; n <= 6; n++) {
            due("29 missed 0: " + n, now[n - 1], x.reads(0, n));
            due("29 missed 1: " + n, one[n - 1], x.reads(1, n));
            due("29 missed 2: " + n, one[n - 1], x.reads(2, n));
            due("29 missed 3: " + n, all[n - 1], x.reads(3, n));
            due("29 missed 10: " + n, all[n - 1], x.reads(10, n));
        }
        due("29 k 11", BAD, x.reads(11, 1));
        due("29 k -1", BAD, x.reads(-1, 1));
        due("29 n 0", BAD, x.reads(0, 0));
        due("29 n 7", BAD, x.reads(0, 7));
        due("30 missed 0", bits(2, 3, 5, 6), x.alike(0));
        due("30 missed 1", bits(2, 3), x.alike(1));
        due("30 missed 3", bits(5, 6), x.alike(3));
        due("30 missed 10", bits(5, 6), x.alike(10));
        due("30 k 11", BAD, x.alike(11));
        due("30 k -1", BAD, x.alike(-1));
        x.book(0);
        due("30 fixed", bits(2, 3, 5, 6), x.alike(3));
        x.book(2);
        x.write(4, 1);
        x.write(5, 1);
        due("30 told", bits(5), x.alike(3));
        due("29 told", 1, x.reads(3, 4));
        due("29 told nothing", NONE, x.reads(3, 1));
        // the missed days keep their place: gap 2 counts from day 0
        x = told("most 4;gap 2;book rank;rung 1 3;");
        due("29 today is the same day", 0, x.reads(1, 1));
        due("29 today is the same day", 0, x.reads(1, 3));
    }

    private static void putOff() {
        NeverAgain x = told("most 4;matters 2;");
        due("33 of none", 0, x.putOff(0));
        due("33 of none", NONE, x.putOff(10));
        due("31 stay", 1, x.stay(1, 4));
        due("31 stay 2", BAD, x.stay(2, 0));
        due("31 stay -1", BAD, x.stay(-1, 0));
        due("31 until 5", BAD, x.stay(0, 5));
        due("31 until -1", BAD, x.stay(0, -1));
        due("31 stay", 2, x.stay(1, 0));
        due("33 strokes", 6, x.putOff(0));
        due("33 the latter's day", 0, x.putOff(11));
        due("33 the latter's number", 2, x.putOff(21));
        due("33 the former's day", 1, x.putOff(10));
        due("33 the former's number", 4, x.putOff(20));
        due("33 not so many", NONE, x.putOff(12));
        due("33 not so many", NONE, x.putOff(23));
        for (int what : new int[] {-1, 1, 9, 14, 19, 24, LOW, HIGH}) {
            due("33 what " + what, BAD, x.putOff(what));
        }
        due("31 stay", 3, x.stay(0, 3));
        due("31 stay", 4, x.stay(0, 3));
        due("31 full", FULL, x.stay(0, 0));
        due("31 bad ahead of full", BAD, x.stay(2, 0));
        due("33 all", 10, x.putOff(0));
        due("32 serve", 4, x.serve());
        due("32 serve", 0, x.serve());
        due("32 count", 0, x.count(2));
        x.stay(0, 0);
        x.stay(1, 0);
        due("33 can not be", NONE, x.putOff(0));
        due("33 can not be", NONE, x.putOff(10));
        cheaperDay();
    }

    private static void cheaperDay() {
        // 1 may be again on day 2 only
        NeverAgain x = told("most 4;matters 1;gap 3;rung 1;wait 0 4;");
        due("33 a cheaper day", 1, x.putOff(0));
        due("33 a cheaper day", 2, x.putOff(10));
        due("33 its number", 1, x.putOff(20));
        x = told("most 4;matters 1;gap 3;rung 1;wait 0 1;");
        due("33 too late for it", 2, x.putOff(0));
        due("33 silent is last", 0, x.putOff(10));
        x = told("most 4;matters 1;wait 0 4;wait 0 4;");
        due("33 the least that waits first", 0, x.putOff(10));
        due("33 the least number first", 1, x.putOff(20));
        due("33 the other", 1, x.putOff(11));
        due("33 the other", 2, x.putOff(21));
        // a silent day between makes 1 and 2 possible
        x = told("most 4;matters 1;near;wait 0 4;wait 0 4;");
        due("33 a silent day", 3, x.putOff(0));
        due("33 a silent day", 0, x.putOff(10));
        due("33 a silent day", 2, x.putOff(11));
    }

    private static void forgotten() {
        NeverAgain x = told("most 6;gap 1;rung 2 0 2;");
        due("34 one", 1, x.forgotten(1, 6, 0));
        due("34 rung", 0, x.forgotten(1, 2, 0));
        due("34 rung", NONE, x.forgotten(1, 2, 1));
        due("34 rung", NONE, x.forgotten(1, 2, 2));
        due("34 two", 2, x.forgotten(2, 9, 0));
        due("34 first", bits(3, 6), x.forgotten(2, 9, 1));
        due("34 in all", 0, x.forgotten(2, 9, 2));
        due("34 three", 2, x.forgotten(3, 10, 0));
        due("34 the first of three", bits(1, 3, 6), x.forgotten(3, 10, 1));
        due("34 in all of three", bits(1), x.forgotten(3, 10, 2));
        due("34 only one", bits(1, 4, 6), x.forgotten(3, 11, 2));
        due("34 five", 1, x.forgotten(5, 19, 0));
        due("34 six", 0, x.forgotten(6, 21, 0));
        due("34 no strokes", 0, x.forgotten(1, 0, 0));
        due("34 100", 0, x.forgotten(6, 100, 0));
        due("34 n 0", BAD, x.forgotten(0, 5, 0));
        due("34 n 7", BAD, x.forgotten(7, 5, 0));
        due("34 strokes -1", BAD, x.forgotten(1, -1, 0));
        due("34 strokes 101", BAD, x.forgotten(1, 101, 0));
        due("34 what 3", BAD, x.forgotten(1, 5, 3));
        due("34 what -1", BAD, x.forgotten(1, 5, -1));
        x = told("most 16;");
        due("34 strokes that no six have", 0, x.forgotten(6, 20, 0));
        due("34 the least six", bits(1, 2, 3, 4, 5, 6), x.forgotten(6, 21, 1));
        due("34 the last six", bits(11, 12, 13, 14, 15, 16), x.forgotten(6, 81, 1));
        due("34 many", 98, x.forgotten(6, 36, 0));
        due("34 the first of many", bits(1, 2, 3, 4, 10, 16), x.forgotten(6, 36, 1));
        x = told("most 7;rung 3 7;");
        due("34 rung", 0, x.forgotten(1, 7, 0));
        x.undo(1);
        due("34 taken back", 1, x.forgotten(1, 7, 0));
        x = told("most 7;rung 1;");
        due("34 in all of one", bits(2, 3, 4), x.forgotten(3, 9, 2));
        due("34 in all of two", 2, x.forgotten(3, 11, 0));
        due("34 in all of two", bits(2), x.forgotten(3, 11, 2));
    }

    private static void images() {
        NeverAgain x = told("most 5;rung 1 2;page 3 1;gap 3;near;book told;ask 0 1;wait 1 4;");
        due("36 none", STATE, x.back(0));
        due("35 keep", 0, x.keep(1));
        due("36 the other", STATE, x.back(0));
        due("35 keep 2", BAD, x.keep(2));
        due("35 keep -1", BAD, x.keep(-1));
        due("36 back 2", BAD, x.back(2));
        due("36 back -1", BAD, x.back(-1));
        x.tell(4);
        x.undo(0);
        x.ring(5);
        x.write(3, NONE);
        x.gap(0);
        x.near(0);
        x.book(1);
        x.drop(0);
        x.ask(1);
        x.serve();
        due("36 back", 2, x.back(1));
        int[] rules = {5, 2, 3, 1, 2, 2};
        for (int i = 0; i < 6; i++) {
            due("36 rule " + i, rules[i], x.rule(i));
        }
        due("36 day 0", 1, x.day(0));
        due("36 day 1", 2, x.day(1));
        due("36 page", 1, x.page(3));
        due("36 asked", 2, x.count(1));
        due("36 wait", 1, x.count(2));
        due("36 the year stays", 1, x.count(0));
        x.undo(1);
        due("36 the image stays", 2, x.back(1));
        x.undo(1);
        due("35 keep again", 1, x.keep(1));
        due("35 the other", 0, x.keep(0));
        due("41 images", 2, x.count(3));
        due("36 kept anew", 1, x.back(1));
        x.write(5, 1);
        due("36 an image is a copy", 1, x.back(0));
        due("36 an image is a copy", NONE, x.page(5));
    }

    private static void sheets() {
        NeverAgain x = new NeverAgain();
        due("37 k 4", BAD, x.sheet(4, 0, 1));
        due("37 k -1", BAD, x.sheet(-1, 0, 1));
        due("37 lane 3", BAD, x.sheet(0, 3, 1));
        due("37 lane -1", BAD, x.sheet(0, -1, 1));
        due("37 n 41", BAD, x.sheet(0, 0, 41));
        due("37 size", -14, x.sheet(0, 0, -1));
        due("37 size", -14, x.sheet(3, 2, LOW));
        due("37 bad ahead of size", BAD, x.sheet(4, 0, -1));
        due("41 nothing", NONE, x.count(5));
        due("37 n 40", 1, x.sheet(0, 0, 40));
        due("41 cells", 40, x.count(5));
        due("37 size changes nothing", -14, x.sheet(0, 1, -2));
        due("41 cells", 40, x.count(5));
        due("38 k 4", BAD, x.lay(4, 0, 0));
        due("38 k -1", BAD, x.lay(-1, 0, 0));
        due("38 null", -11, x.lay(1, 0, 0));
        due("38 null ahead of index", -11, x.lay(1, -1, 0));
        due("38 index 40", -12, x.lay(0, 40, 0));
        due("38 index -1", -12, x.lay(0, -1, 0));
        due("38 lay", 1, x.lay(0, 39, 256 + 7));
        due("39 the lowest bits", 1, x.read(0, 0, 39, 1));
        due("39 day", 7, x.day(0));
        due("37 anew", 1, x.sheet(0, 0, 40));
        due("39 cells 0", 1, x.read(0, 0, 39, 1));
        due("39 silent", 0, x.day(1));
        x.sheet(1, 1, 2);
        x.lay(1, 0, 65536 + 5);
        x.lay(1, 1, 256 + 5);
        due("39 shorts", 1, x.read(1, 1, 0, 1));
        due("39 shorts", 5, x.day(2));
        due("39 256 and 5", -20, x.read(1, 1, 1, 1));
        x.sheet(2, 2, 1);
        x.lay(2, 0, 65536 + 4);
        due("39 ints", -20, x.read(2, 2, 0, 1));
        x.lay(2, 0, 4);
        due("39 ints", 1, x.read(2, 2, 0, 1));
        due("37 no cells", 1, x.sheet(0, 2, 0));
        due("41 no cells", 0, x.count(5));
        due("38 no cells", -12, x.lay(0, 0, 0));
    }

    private static void read() {
        NeverAgain x = told("most 6;rung 6;");
        due("39 k 4", BAD, x.read(4, 0, 0, 1));
        due("39 k -1", BAD, x.read(-1, 0, 0, 1));
        due("39 lane 3", BAD, x.read(0, 3, 0, 1));
        due("39 lane -1", BAD, x.read(0, -1, 0, 1));
        due("39 n 21", BAD, x.read(0, 0, 0, 21));
        due("39 n -1", BAD, x.read(0, 0, 0, -1));
        due("40 bad is no end", 0, x.torn());
        due("39 nothing", 0, x.read(0, 0, 0, 1));
        due("40 null", 1, x.torn());
        x.sheet(0, 0, 4);
        for (int i = 0; i < 4; i++) {
            x.lay(0, i, i + 2);
        }
        due("39 another lane", 0, x.read(0, 1, 0, 1));
        due("40 cast", 3, x.torn());
        due("39 two", 2, x.read(0, 0, 0, 2));
        due("40 none", 0, x.torn());
        due("39 state", -20, x.read(0, 0, 1, 3));
        due("39 none goes", 3, x.rule(5));
        due("39 those ahead go", 2, x.read(0, 0, 2, 20));
        due("40 index", 2, x.torn());
        due("39 those ahead went", 5, x.day(4));
        x.lay(0, 1, 1);
        x.lay(0, 2, 1);
        due("39 day 1 is refused", -21, x.read(0, 0, 1, 20));
        due("40 a refused one is no end", 2, x.torn());
        due("39 none goes", 5, x.rule(5));
        x.lay(0, 0, -1);
        due("39 bad", -20, x.read(0, 0, 0, 1));
        due("39 index -1", 0, x.read(0, 0, -1, 2));
        due("39 index low", 0, x.read(0, 0, LOW, 20));
        due("39 index high", 0, x.read(0, 0, HIGH, 20));
        due("39 no days", 0, x.read(0, 0, 0, 0));
        due("40 no days", 0, x.torn());
        x.read(0, 1, 9, 1);
        due("40 cast ahead of index", 3, x.torn());
        due("39 no days of another lane", 0, x.read(0, 1, 0, 0));
        due("40 no days of another lane", 0, x.torn());
        x.read(1, 1, -1, 1);
        due("40 null ahead of index", 1, x.torn());
        due("39 no days of nothing", 0, x.read(1, 1, -1, 0));
        due("40 no days of nothing", 0, x.torn());
        x.read(0, 2, -1, 1);
        due("39 no days past the end", 0, x.read(0, 0, 99, 0));
        due("40 no days past the end", 0, x.torn());
        x = told("rung" + " 0".repeat(58) + ";");
        x.sheet(3, 1, 3);
        due("39 full", -22, x.read(3, 1, 0, 3));
        due("39 to the 60th", 2, x.read(3, 1, 0, 2));
        due("39 index ahead of full", 0, x.read(3, 1, 3, 1));
        due("40 index", 2, x.torn());
    }

    private static void count() {
        NeverAgain x = told("rung 3 0 12;ask 1 1 0;wait 0 1;wait 1 1;");
        x.tell(1);
        x.keep(1);
        x.feed(1);
        x.sheet(0, 2, 9);
        int[] counts = {1, 3, 2, 1, 8, 9, 15};
        for (int i = 0; i < 7; i++) {
            due("41 count " + i, counts[i], x.count(i));
        }
        due("41 count 7", BAD, x.count(7));
        due("41 count -1", BAD, x.count(-1));
        x.ring(5);
        due("41 strokes", 20, x.count(6));
        x.undo(1);
        due("41 strokes", 3, x.count(6));
    }

    public static void main(String[] args) {
        newObject();
        feed();
        end();
        text();
        fault();
        asked();
        changed();
        days();
        meanings();
        sixteen();
        ring();
        holds();
        year();
        plans();
        worst();
        mean();
        missed();
        putOff();
        lastWaitDay();
        forgotten();
        images();
        sheets();
        read();
        count();
        C.close();
    }
}
