import java.util.List;
import java.util.function.Supplier;
import java.util.function.ToLongFunction;

/**
 * "What is refused changes nothing (but THE TAPE, as told)", and neither does a call that only
 * asks: each such call is made on one of two like objects, and both hold the same behind it.
 */
public final class RefusedTest extends Bell {
    private static final Checks C = new Checks("RefusedTest");

    private static NeverAgain fresh() {
        return new NeverAgain();
    }

    /** Some of everything, and room for more. */
    private static NeverAgain rich() {
        NeverAgain x = told("most 7;matters 3 2 5;gap 3;near;book rank;page 2 1;page 7 2;rung 1 4 0 6;"
            + "ask 2 0 1;wait 1 3;wait 0 4;");
        x.keep(1);
        x.ring(3);
        x.gap(4);
        x.write(2, 0);
        x.tell(2);
        x.tell(0);
        x.tell(5);
        layAll(x, 0, 0, 3, 1, 0, 6, 2);
        layAll(x, 1, 1, 7, 7);
        layAll(x, 2, 2);
        x.read(0, 0, 5, 1);
        tell(x, "gap 21;");
        feedText(x, "gap 2 ;near;");
        return x;
    }

    /** As much of everything as there may be. */
    private static NeverAgain full() {
        NeverAgain x = told("most 16;matters 4 9 9 9 9;gap 20;near;book told;page 16 3;page 1 0;rung 1"
            + " 0".repeat(56) + " 4 6 8;ask 0 1 2 3 0;wait 0 0;wait 1 1;wait 2 2;wait 3 4;");
        x.keep(0);
        x.keep(1);
        for (int i = 1; i <= 12; i++) {
            x.tell(i + 4);
        }
        for (int k = 0; k < 4; k++) {
            x.sheet(k, k % 3, 40);
            x.lay(k, 39, k + 1);
        }
        feedText(x, "near;" + " ".repeat(395));
        return x;
    }

    private static void layAll(NeverAgain x, int k, int lane, int... cells) {
        x.sheet(k, lane, cells.length);
        for (int i = 0; i < cells.length; i++) {
            x.lay(k, i, cells[i]);
        }
    }

    private static void alike(String call, Supplier<NeverAgain> make, ToLongFunction<NeverAgain> made) {
        for (int part = 0; part < Probe.PARTS; part++) {
            NeverAgain x = make.get();
            made.applyAsLong(x);
            List<Long> got = Probe.of(x, part);
            C.due(call + " changes nothing (part " + part + ")", got.equals(Probe.of(make.get(), part)));
        }
    }

    private static void refused(String call, Supplier<NeverAgain> make, long want, ToLongFunction<NeverAgain> made) {
        C.due(call, want, made.applyAsLong(make.get()));
        alike(call, make, made);
    }

    private static void refusedByRich(String call, long want, ToLongFunction<NeverAgain> made) {
        refused("rich: " + call, RefusedTest::rich, want, made);
    }

    private static void refusedByFull(String call, long want, ToLongFunction<NeverAgain> made) {
        refused("full: " + call, RefusedTest::full, want, made);
    }

    private static void refusedByFresh(String call, long want, ToLongFunction<NeverAgain> made) {
        refused("fresh: " + call, RefusedTest::fresh, want, made);
    }

    /** Each value is no number of what the call takes. */
    private static void bad(String call, int[] values, CallOfOne made) {
        for (int v : values) {
            refusedByRich(call + " " + v, BAD, x -> made.on(x, v));
            refusedByFull(call + " " + v, BAD, x -> made.on(x, v));
        }
    }

    private interface CallOfOne {
        long on(NeverAgain x, int v);
    }

    private static void wrongNumbers() {
        bad("3 end", new int[] {-1, 401, LOW, HIGH}, NeverAgain::end);
        bad("6 rule", new int[] {-1, 6, LOW, HIGH}, NeverAgain::rule);
        bad("7 day", new int[] {-1, 60, LOW, HIGH}, NeverAgain::day);
        bad("8 weight", new int[] {-1, 4, LOW, HIGH}, NeverAgain::weight);
        bad("9 page", new int[] {-1, 0, 17, LOW, HIGH}, NeverAgain::page);
        bad("10 gap", new int[] {-1, 21, LOW, HIGH}, NeverAgain::gap);
        bad("11 near", new int[] {-1, 2, LOW, HIGH}, NeverAgain::near);
        bad("12 book", new int[] {-1, 3, LOW, HIGH}, NeverAgain::book);
        bad("13 write n", new int[] {-1, 0, 17, LOW, HIGH}, (x, v) -> x.write(v, 0));
        bad("13 write n nothing", new int[] {-1, 0, 17, LOW, HIGH}, (x, v) -> x.write(v, NONE));
        bad("13 write m", new int[] {-5, -3, -2, -1, 4, LOW, HIGH}, (x, v) -> x.write(1, v));
        bad("14 undo", new int[] {-1, 61, LOW, HIGH}, NeverAgain::undo);
        bad("16 means", new int[] {-1, 0, 17, LOW, HIGH}, NeverAgain::means);
        bad("17 cheap", new int[] {-1, 4, LOW, HIGH}, NeverAgain::cheap);
        bad("18 ring", new int[] {-1, 17, LOW, HIGH}, NeverAgain::ring);
        bad("20 tell", new int[] {-1, 17, LOW, HIGH}, NeverAgain::tell);
        bad("21 cut", new int[] {-1, 13, LOW, HIGH}, NeverAgain::cut);
        bad("22 judge", new int[] {-1, 2, LOW, HIGH}, NeverAgain::judge);
        bad("23 ask", new int[] {-1, 4, LOW, HIGH}, NeverAgain::ask);
        bad("24 drop", new int[] {-1, 6, LOW, HIGH}, NeverAgain::drop);
        bad("25 plan", new int[] {-1, 1, 9, 15, LOW, HIGH}, NeverAgain::plan);
        bad("26 byRule", new int[] {-1, 1, 9, 15, LOW, HIGH}, NeverAgain::byRule);
        bad("27 worst n", new int[] {-1, 0, 4, LOW, HIGH}, (x, v) -> x.worst(v, 0));
        bad("27 worst what", new int[] {-1, 2, LOW, HIGH}, (x, v) -> x.worst(1, v));
        bad("28 mean n", new int[] {-1, 0, 5, LOW, HIGH}, (x, v) -> x.mean(v, 0));
        bad("28 mean what", new int[] {-1, 2, LOW, HIGH}, (x, v) -> x.mean(1, v));
    }

    private static void moreWrongNumbers() {
        bad("29 reads k", new int[] {-1, 11, LOW, HIGH}, (x, v) -> x.reads(v, 1));
        bad("29 reads n", new int[] {-1, 0, 17, LOW, HIGH}, (x, v) -> x.reads(0, v));
        bad("30 alike", new int[] {-1, 11, LOW, HIGH}, NeverAgain::alike);
        bad("31 stay m", new int[] {-1, 4, LOW, HIGH}, (x, v) -> x.stay(v, 0));
        bad("31 stay until", new int[] {-1, 5, LOW, HIGH}, (x, v) -> x.stay(0, v));
        bad("33 putOff", new int[] {-1, 1, 9, 14, 19, 24, LOW, HIGH}, NeverAgain::putOff);
        bad("34 forgotten n", new int[] {-1, 0, 7, LOW, HIGH}, (x, v) -> x.forgotten(v, 5, 0));
        bad("34 forgotten strokes", new int[] {-1, 101, LOW, HIGH}, (x, v) -> x.forgotten(1, v, 0));
        bad("34 forgotten what", new int[] {-1, 3, LOW, HIGH}, (x, v) -> x.forgotten(1, 5, v));
        bad("35 keep", new int[] {-1, 2, LOW, HIGH}, NeverAgain::keep);
        bad("36 back", new int[] {-1, 2, LOW, HIGH}, NeverAgain::back);
        bad("37 sheet k", new int[] {-1, 4, LOW, HIGH}, (x, v) -> x.sheet(v, 0, 1));
        bad("37 sheet lane", new int[] {-1, 3, LOW, HIGH}, (x, v) -> x.sheet(0, v, 1));
        bad("37 sheet n", new int[] {41, HIGH}, (x, v) -> x.sheet(0, 0, v));
        bad("38 lay k", new int[] {-1, 4, LOW, HIGH}, (x, v) -> x.lay(v, 0, 1));
        bad("39 read k", new int[] {-1, 4, LOW, HIGH}, (x, v) -> x.read(v, 0, 0, 1));
        bad("39 read lane", new int[] {-1, 3, LOW, HIGH}, (x, v) -> x.read(0, v, 0, 1));
        bad("39 read n", new int[] {-1, 21, LOW, HIGH}, (x, v) -> x.read(0, 0, 0, v));
        bad("41 count", new int[] {-1, 7, LOW, HIGH}, NeverAgain::count);
    }

    /** The first that is too large for what there is, not for what may ever be. */
    private static void beyondWhatThereIs() {
        refusedByRich("3 end 13 of 12", BAD, x -> x.end(13));
        refusedByRich("7 day 5 of 5", BAD, x -> x.day(5));
        refusedByRich("8 weight 3 of 3", BAD, x -> x.weight(3));
        refusedByRich("9 page 8 of 7", BAD, x -> x.page(8));
        refusedByRich("13 write 8 of 7", BAD, x -> x.write(8, 0));
        refusedByRich("13 write 3 of 3", BAD, x -> x.write(1, 3));
        refusedByRich("14 undo 6 of 5", BAD, x -> x.undo(6));
        refusedByRich("16 means 8 of 7", BAD, x -> x.means(8));
        refusedByRich("17 cheap 3 of 3", BAD, x -> x.cheap(3));
        refusedByRich("18 ring 8 of 7", BAD, x -> x.ring(8));
        refusedByRich("20 tell 8 of 7", BAD, x -> x.tell(8));
        refusedByRich("21 cut 4 of 3", BAD, x -> x.cut(4));
        refusedByRich("23 ask 3 of 3", BAD, x -> x.ask(3));
        refusedByRich("24 drop 4 of 3", BAD, x -> x.drop(4));
        refusedByRich("29 reads 8 of 7", BAD, x -> x.reads(0, 8));
        refusedByRich("31 stay 3 of 3", BAD, x -> x.stay(3, 0));
        refusedByFresh("3 end 1 of none", BAD, x -> x.end(1));
        refusedByFresh("7 day 0 of none", BAD, x -> x.day(0));
        refusedByFresh("14 undo 1 of none", BAD, x -> x.undo(1));
        refusedByFresh("21 cut 1 of none", BAD, x -> x.cut(1));
        refusedByFresh("24 drop 1 of none", BAD, x -> x.drop(1));
    }

    private static void stateAndFull() {
        refusedByRich("18 ring what is rung", STATE, x -> x.ring(3));
        refusedByRich("18 ring next to 3", STATE, x -> x.ring(2));
        refusedByRich("18 ring 6 ahead of its gap", STATE, x -> x.ring(6));
        refusedByRich("36 back to no image", STATE, x -> x.back(0));
        refusedByFresh("36 back 0", STATE, x -> x.back(0));
        refusedByFresh("36 back 1", STATE, x -> x.back(1));
        refusedByFull("2 feed", FULL, x -> x.feed(0x6e6561723b202020L));
        refused("395 bytes: 2 feed", () -> {
            NeverAgain x = full();
            x.end(395);
            return x;
        }, FULL, x -> x.feed(0x6e6561723b202020L));
        refusedByFull("18 ring", FULL, x -> x.ring(1));
        refusedByFull("18 ring silent", FULL, x -> x.ring(0));
        refusedByFull("18 ring next", STATE, x -> x.ring(9));
        refusedByFull("18 ring ahead of its gap", STATE, x -> x.ring(8));
        refusedByFull("20 tell", FULL, x -> x.tell(1));
        refusedByFull("20 tell silent", FULL, x -> x.tell(0));
        refusedByFull("23 ask", FULL, x -> x.ask(0));
        refusedByFull("31 stay", FULL, x -> x.stay(0, 0));
    }

    private static void machineFaults() {
        refusedByRich("37 size", -14, x -> x.sheet(0, 0, -1));
        refusedByRich("37 size of nothing", -14, x -> x.sheet(3, 2, LOW));
        refusedByFull("37 size", -14, x -> x.sheet(0, 1, -1));
        refusedByRich("37 k and size", BAD, x -> x.sheet(4, 0, -1));
        refusedByRich("37 lane and size", BAD, x -> x.sheet(0, 3, -1));
        refusedByRich("38 null", -11, x -> x.lay(3, 0, 1));
        refusedByRich("38 null and index", -11, x -> x.lay(3, -1, 1));
        refusedByRich("38 index 5 of 5", -12, x -> x.lay(0, 5, 1));
        refusedByRich("38 index -1", -12, x -> x.lay(0, -1, 1));
        refusedByRich("38 index 0 of 0", -12, x -> x.lay(2, 0, 1));
        refusedByRich("38 index low", -12, x -> x.lay(0, LOW, 1));
        refusedByRich("38 index high", -12, x -> x.lay(0, HIGH, 1));
        refusedByFull("38 index 40 of 40", -12, x -> x.lay(0, 40, 1));
        refusedByFresh("38 k and null", BAD, x -> x.lay(4, 0, 1));
    }

    /** Days ahead of the refused one do not go, and the fault of an earlier read stays. */
    private static void refusedReads() {
        refusedByRich("39 day 0 may not be", -20, x -> x.read(0, 0, 0, 5));
        refusedByRich("39 day 1 may not be", -21, x -> x.read(0, 0, 2, 3));
        refusedByRich("39 day 3 may not be", -23, x -> {
            x.lay(0, 1, 1);
            x.lay(0, 3, 0);
            x.lay(0, 4, 1);
            int answer = x.read(0, 0, 1, 4);
            x.lay(0, 3, 6);
            x.lay(0, 4, 2);
            return answer;
        });
        refusedByRich("39 day 1 is no number", -21, x -> {
            x.lay(0, 3, 8);
            int answer = x.read(0, 0, 2, 3);
            x.lay(0, 3, 6);
            return answer;
        });
        refusedByRich("39 day 1 is below 0", -21, x -> {
            x.lay(0, 3, -1);
            int answer = x.read(0, 0, 2, 3);
            x.lay(0, 3, 6);
            return answer;
        });
        refusedByFull("39 day 0 is the 61st", -20, x -> x.read(0, 0, 0, 1));
        refusedByFull("39 the 40th cell", -20, x -> x.read(0, 0, 39, 1));
    }

    private static NeverAgain richWithoutTape() {
        NeverAgain x = rich();
        x.end(0);
        return x;
    }

    private static NeverAgain fullWithoutTape() {
        NeverAgain x = full();
        x.end(0);
        tell(x, "most 3;");
        return x;
    }

    /** Each text has fault 3, as the text before it had: so all stays as it was. */
    private static void refusedTexts() {
        String[] texts = {"most 3;", "most 4;gap 99", "near;book told;rung 1 2 3;ask 1;matters 5;",
            "matters 1 9;wait 0 4;page 1 0;page 2 4;", "rung 17;"};
        for (String text : texts) {
            alike("4 text " + text, RefusedTest::richWithoutTape, x -> tell(x, text));
            alike("4 text " + text, RefusedTest::fullWithoutTape, x -> tell(x, text));
        }
        NeverAgain x = richWithoutTape();
        C.due("4 a refused text", -16, tell(x, "near; #"));
        C.due("4 a refused text empties the tape", 0, x.count(4));
    }

    private static void same(String call, ToLongFunction<NeverAgain> made) {
        alike("fresh: " + call, RefusedTest::fresh, made);
        alike("rich: " + call, RefusedTest::rich, made);
        alike("full: " + call, RefusedTest::full, made);
    }

    private static void askingChangesNothing() {
        same("5 fault", NeverAgain::fault);
        same("6 rule", x -> x.rule(5));
        same("7 day", x -> x.day(0));
        same("8 weight", x -> x.weight(0));
        same("9 page", x -> x.page(2));
        same("15 may", NeverAgain::may);
        same("16 means", x -> x.means(4));
        same("17 cheap", x -> x.cheap(1));
        same("19 holds", NeverAgain::holds);
        same("22 judge", x -> x.judge(0) + x.judge(1));
        same("25 plan", x -> x.plan(0) + x.plan(11));
        same("26 byRule", x -> x.byRule(0) + x.byRule(11));
        same("27 worst", x -> x.worst(3, 0) + x.worst(2, 1));
        same("28 mean", x -> x.mean(4, 0) + x.mean(3, 1));
        same("29 reads", x -> x.reads(10, 1) + x.reads(2, 4));
        same("30 alike", x -> x.alike(10) + x.alike(1));
        same("33 putOff", x -> x.putOff(0) + x.putOff(11) + x.putOff(20));
        same("34 forgotten", x -> x.forgotten(3, 12, 0) + x.forgotten(2, 9, 2));
        same("40 torn", NeverAgain::torn);
        same("41 count", x -> x.count(0) + x.count(6));
    }

    /** A call that goes without changing what there was. */
    private static void allStays() {
        same("3 end at the length", x -> x.end(x.count(4)));
        same("10 gap as it was", x -> x.gap(x.rule(2)));
        same("11 near as it was", x -> x.near(x.rule(3)));
        same("12 book as it was", x -> x.book(x.rule(4)));
        same("13 write as it was", x -> x.write(2, x.page(2)));
        same("14 undo none", x -> x.undo(x.rule(5)));
        same("21 cut none", x -> x.cut(x.count(0)));
        same("24 drop none", x -> x.drop(x.count(1)));
        alike("32 serve of none", RefusedTest::fresh, NeverAgain::serve);
        alike("4 text of none", RefusedTest::fresh, NeverAgain::text);
        alike("39 no days", RefusedTest::fresh, x -> x.read(0, 0, 0, 0));
        alike("39 no days", RefusedTest::full, x -> x.read(0, 0, 0, 0));
        alike("36 back to what there is", RefusedTest::full, x -> x.back(1));
        alike("35 keep what is kept", RefusedTest::full, x -> x.keep(0));
    }

    /** The probe is of use only if it tells objects apart: each change is seen by one part at least. */
    private static void seen(String call, ToLongFunction<NeverAgain> made) {
        boolean told = false;
        for (int part = 0; part < Probe.PARTS; part++) {
            NeverAgain x = rich();
            made.applyAsLong(x);
            told |= !Probe.of(x, part).equals(Probe.of(rich(), part));
        }
        C.due("the probe sees " + call, told);
    }

    private static void probeSees() {
        seen("a byte less", x -> x.end(11));
        seen("bytes more", x -> x.feed(0));
        seen("another gap", x -> x.gap(5));
        seen("near", x -> x.near(0));
        seen("the book", x -> x.book(0));
        seen("a page", x -> x.write(7, 1));
        seen("a day less", x -> x.undo(4));
        seen("a day more", x -> x.ring(0));
        seen("more of the year", x -> x.tell(0));
        seen("another year", x -> x.cut(2) + x.tell(6));
        seen("one asked more", x -> x.ask(0));
        seen("another asked", x -> x.drop(2) + x.ask(2));
        seen("one waits more", x -> x.stay(0, 0));
        seen("others wait", x -> x.serve() + x.stay(1, 3) + x.stay(0, 3));
        seen("an image more", x -> x.keep(0));
        seen("another image", x -> x.keep(1));
        seen("what was kept", x -> x.back(1));
        seen("a cell", x -> x.lay(0, 4, 1));
        seen("a cell of another sheet", x -> x.lay(1, 1, 1));
        seen("a sheet", x -> x.sheet(3, 0, 0));
        seen("a lane", x -> x.sheet(2, 1, 0));
        seen("another fault", x -> tell(x, "near") + x.feed(0));
        seen("another tear", x -> x.read(3, 0, 0, 1));
    }

    public static void main(String[] args) {
        wrongNumbers();
        moreWrongNumbers();
        beyondWhatThereIs();
        stateAndFull();
        machineFaults();
        refusedReads();
        refusedTexts();
        askingChangesNothing();
        allStays();
        probeSees();
        C.close();
    }
}
