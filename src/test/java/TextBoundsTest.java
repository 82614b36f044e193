import java.util.ArrayList;
import java.util.List;

/** The text of promises 4 and 5: each bound on both sides, and each fault at its place. */
public final class TextBoundsTest extends Bell {
    private static final Checks C = new Checks("TextBoundsTest");

    /**
     * Lines that are well, token by token, with what may stand at each token: L a line's name,
     * B a book's name, N figures, M figures or the end of the line, S the end of the line.
     */
    private static final String[][] LINES = {
        {"LNS", "most", "9", ";"},
        {"LNMMM", "matters", "2", "3", "4", ";"},
        {"LNM", "matters", "2", ";"},
        {"LNS", "gap", "2", ";"},
        {"LS", "near", ";"},
        {"LBS", "book", "fixed", ";"},
        {"LBS", "book", "rank", ";"},
        {"LBS", "book", "told", ";"},
        {"LNNS", "page", "1", "0", ";"},
        {"LNM", "rung", "1", ";"},
        {"LNMMM", "rung", "1", "0", "2", ";"},
        {"LNM", "ask", "1", ";"},
        {"LNMMMMM", "ask", "0", "0", "0", "0", "0", ";"},
        {"LNNS", "wait", "1", "4", ";"},
    };

    private static void taken(String text, int lines) {
        NeverAgain x = new NeverAgain();
        C.due("4 text " + text, lines, tell(x, text));
        C.due("5 fault of " + text, 0, x.fault());
        C.due("4 tape behind " + text, 0, x.count(4));
    }

    private static void refused(String text, int fault, int place) {
        NeverAgain x = new NeverAgain();
        C.due("4 text " + text, -10 - place, tell(x, text));
        C.due("5 fault of " + text, fault, x.fault());
        C.due("4 tape behind " + text, 0, x.count(4));
    }

    /** Whether a token may stand where the mark is; its own bounds are tested elsewhere. */
    private static boolean mayStand(char mark, String token) {
        boolean figures = Character.isDigit(token.charAt(0));
        switch (mark) {
            case 'L':
            case 'B':
                return false;
            case 'N':
                return figures;
            case 'M':
                return figures || token.equals(";");
            default:
                return token.equals(";");
        }
    }

    private static String join(List<String> tokens, String blanks) {
        return String.join(blanks, tokens);
    }

    /** Where a token is wrong, what is behind it is not read: it may be worse still. */
    private static void tokensOutOfPlace(String ahead, String blanks) {
        for (String[] line : LINES) {
            for (int i = 1; i < line.length; i++) {
                List<String> before = new ArrayList<>(List.of(line).subList(1, i));
                String start = ahead + join(before, blanks) + (before.isEmpty() ? "" : blanks);
                char mark = line[0].charAt(i - 1);
                for (String token : new String[] {"x", "mos", "mostly", "fixe", "1", "01", ";"}) {
                    if (!mayStand(mark, token)) {
                        refused(start + token + " # 999 zz", 2, start.length());
                    }
                }
                for (String token : new String[] {"#", "\u0000", "\u00ff", "M", "/", ":", "`", "{", "\n", "100", "000", "1234"}) {
                    refused(start + token + " zz", 1, start.length());
                }
                if (i > 1) {
                    refused(start, 2, start.length());
                    refused(start + "   ", 2, start.length() + 3);
                }
            }
        }
    }

    /** A name of a line may not stand inside a line, a book's name begins none. */
    private static void namesOutOfPlace() {
        for (String[] line : LINES) {
            String whole = join(List.of(line).subList(1, line.length), " ");
            taken(whole, 1);
            String open = whole.substring(0, whole.length() - 1);
            for (String[] other : LINES) {
                refused(open + other[1] + ";", 2, open.length());
                if (!line[1].equals("book")) {
                    refused(line[1] + " " + other[1] + ";", 2, line[1].length() + 1);
                }
            }
            refused(open, 2, open.length());
        }
        almostNames();
        for (String name : new String[] {"fixed", "rank", "told", "text", "line", "lines", "b", "n", "nea", "nears"}) {
            refused("near;" + name + ";", 2, 5);
        }
        for (String name : new String[] {"most", "book", "near", "fixeds", "ran", "tol", "b"}) {
            refused("book " + name + ";", 2, 5);
        }
    }

    /** Each letter counts, and so does the length. */
    private static void almostNames() {
        for (String[] line : LINES) {
            boolean book = line[1].equals("book");
            String name = book ? line[2] : line[1];
            String start = book ? "book " : "";
            String rest = book ? ";" : " " + line[2] + ";";
            for (int i = 0; i < name.length(); i++) {
                char other = name.charAt(i) == 'q' ? 'v' : 'q';
                refused(start + name.substring(0, i) + other + name.substring(i + 1) + rest, 2, start.length());
                refused(start + name.substring(0, i) + name.substring(i + 1) + rest, 2, start.length());
            }
            refused(start + name + "q" + rest, 2, start.length());
            refused(start + name + name + rest, 2, start.length());
        }
        refused("qook told;", 2, 0);
        refused("booq told;", 2, 0);
        refused("boo told;", 2, 0);
        refused("books told;", 2, 0);
    }

    private static void bounds(String before, int low, int high, String behind) {
        for (int v : new int[] {low, high}) {
            taken("most 16;".repeat(before.startsWith("most") ? 0 : 1)
                + "matters 4;".repeat(before.startsWith("matters") ? 0 : 1) + before + v + behind + ";",
                before.startsWith("mo") || before.startsWith("ma") ? 2 : 3);
        }
        refused(before + (high + 1) + behind + "#", 3, before.length());
        refused(before + "99", 3, before.length());
        if (low > 0) {
            refused(before + (low - 1) + behind + "#", 3, before.length());
            refused(before + "00", 3, before.length());
        }
    }

    private static void numbersInBounds() {
        bounds("most ", 4, 16, "");
        bounds("matters ", 1, 4, "");
        bounds("matters 4 ", 1, 9, "");
        bounds("matters 4 1 1 1 ", 1, 9, "");
        bounds("gap ", 0, 20, "");
        bounds("page ", 1, 16, " 0");
        bounds("page 1 ", 0, 3, "");
        bounds("rung ", 0, 16, "");
        bounds("rung 0 1 ", 0, 16, "");
        bounds("ask ", 0, 3, "");
        bounds("ask 1 2 3 0 ", 0, 3, "");
        bounds("wait ", 0, 3, " 0");
        bounds("wait 0 ", 0, 4, "");
        for (int n = 4; n <= 16; n++) {
            NeverAgain x = told("most " + n + ";");
            C.due("4 most " + n, n, x.rule(0));
            C.due("4 most page " + n, NONE, x.page(n));
            C.due("4 most page behind " + n, BAD, x.page(n + 1));
        }
        for (int gap = 0; gap <= 20; gap++) {
            C.due("4 gap " + gap, gap, told("gap " + gap + ";").rule(2));
        }
    }

    private static void figures() {
        taken("gap 0;", 1);
        taken("gap 00;", 1);
        taken("gap 09;", 1);
        refused("gap 000;", 1, 4);
        refused("gap 020;", 1, 4);
        refused("gap 21474836480;", 1, 4);
        refused("gap 4294967296;", 1, 4);
        refused("gap " + "0".repeat(396), 1, 4);
        C.due("4 02 is 2", 2, told("gap 02;").rule(2));
        C.due("4 20 is 20", 20, told("gap 20;").rule(2));
        refused("gap 2 0;", 2, 6);
        refused("gap -1;", 1, 4);
        refused("gap +1;", 1, 4);
        refused("gap 1.;", 1, 5);
    }

    private static void blanks() {
        taken("", 0);
        taken(" ", 0);
        taken(" ".repeat(400), 0);
        taken("near;", 1);
        taken("  near  ;  ", 1);
        taken("most4;matters2 1 1;gap0;near;book rank;", 5);
        taken("page1 0;rung1 2;ask0;wait0 0;", 4);
        refused("bookrank;", 2, 0);
        refused("mostmost", 2, 0);
        refused("near\t;", 1, 4);
        taken(" ".repeat(395) + "near;", 1);
        refused(" ".repeat(396) + "near", 2, 400);
        refused(" ".repeat(399) + "z", 2, 399);
        refused(" ".repeat(399) + "#", 1, 399);
        refused(" ".repeat(399) + ";", 2, 399);
        refused("z".repeat(400), 2, 0);
        taken("near;" + "rung 0;".repeat(56), 57);
        taken("rung 0;".repeat(57), 57);
    }

    private static void second() {
        String[] once = {"most 9;", "matters 2;", "gap 0;", "near;", "book fixed;"};
        for (String first : once) {
            String name = first.substring(0, first.indexOf(first.equals("near;") ? ";" : " "));
            for (String between : new String[] {"", " ", "page 1 0;", "rung 0 ; ask 0;"}) {
                String start = first + between;
                refused(start + first, 4, start.length());
                refused(start + name, 4, start.length());
                refused(start + name + "#", 4, start.length());
                refused(start + name + " 99", 4, start.length());
            }
            for (String other : once) {
                if (!other.equals(first)) {
                    taken(first + other, 2);
                }
            }
        }
        for (int n = 1; n <= 16; n++) {
            String start = "most 16;page " + n + " 0;page ";
            refused(start + n + "#", 4, start.length());
            refused(start + n + " 1;", 4, start.length());
            taken(start + (n % 16 + 1) + " 0;", 3);
        }
        refused("page 0 0;", 3, 5);
        taken("ask 0;ask 0;rung 0;rung 0;wait 0 0;wait 0 0;", 6);
    }

    private static void weights() {
        for (int matters = 1; matters <= 4; matters++) {
            String line = "matters " + matters;
            for (int given = 0; given <= matters; given++) {
                NeverAgain x = told(line + ";");
                C.due("4 " + line, 1, tell(x, line + ";"));
                for (int m = 0; m < given; m++) {
                    C.due("4 no weight yet", 1, x.weight(m));
                }
                C.due("4 " + line, 1, tell(x, line + " 9".repeat(given) + ";"));
                for (int m = 0; m < matters; m++) {
                    C.due("4 weight " + m + " of " + given, m < given ? 9 : 1, x.weight(m));
                }
                C.due("4 no more weights", BAD, x.weight(matters));
            }
            String all = line + " 1".repeat(matters);
            refused(all + " 1;", 5, all.length() + 1);
            refused(all + " 9#", 5, all.length() + 1);
            refused(all + " x", 2, all.length() + 1);
            refused(all + " 100", 1, all.length() + 1);
        }
    }

    private static void mostOfEach() {
        String days = "rung" + " 1".repeat(59);
        taken(days + ";", 1);
        taken(days + " 1;", 1);
        refused(days + " 1 1;", 5, days.length() + 3);
        refused(days + " 1 0#", 5, days.length() + 3);
        taken(days + ";rung 0;", 2);
        refused(days + ";rung 0;rung 0;", 5, days.length() + 13);
        refused(days + ";rung 0 0;", 5, days.length() + 8);
        refused(days + " 0;rung;", 2, days.length() + 7);
        C.due("4 60 days", 60, told(days + " 1;").rule(5));
        String asked = "ask 0 0 1 1";
        taken(asked + ";", 1);
        taken(asked + " 0;", 1);
        refused(asked + " 0 1;", 5, 14);
        refused(asked + " 0 1#", 5, 14);
        taken(asked + ";ask 0;", 2);
        refused(asked + ";ask 0 1;", 5, 18);
        refused(asked + " 0;ask 0;", 5, 18);
        refused(asked + " 0;ask;", 2, 17);
        String waits = "wait 0 0;".repeat(3);
        taken(waits, 3);
        taken(waits + "wait 0 0;", 4);
        refused(waits + "wait 0 0;wait 0 0;", 5, 36);
        refused(waits + "wait 0 0; wait#", 5, 37);
        refused(waits + "wait 0 0;wait", 5, 36);
        refused(waits + "wait 0 0;wai", 2, 36);
        StringBuilder pages = new StringBuilder("most 16;");
        for (int n = 1; n <= 16; n++) {
            pages.append("page ").append(n).append(" ").append(n % 2).append(";");
        }
        taken(pages.toString(), 17);
    }

    /** Behind all: what there is not by most and matters, wherever these are told. */
    private static void whatThereIsNot() {
        for (int most = 4; most <= 16; most++) {
            for (String rest : new String[] {"rung %d;", "rung 0 %d 1;", "page %d 0;"}) {
                String well = String.format(rest, most);
                taken("most " + most + ";" + well, 2);
                taken(well + "most " + most + ";", 2);
                if (most < 16) {
                    String wrong = String.format(rest, most + 1);
                    String before = "most " + most + ";" + wrong;
                    refused(before, 6, before.length());
                    refused(wrong + "most " + most + "; ", 6, before.length() + 1);
                    refused(wrong + "most " + most, 2, before.length() - 1);
                    refused(before + "#", 1, before.length());
                }
            }
        }
        for (int matters = 1; matters <= 4; matters++) {
            for (String rest : new String[] {"page 1 %d;", "ask %d;", "ask 0 %d 0;", "wait %d 0;"}) {
                String well = String.format(rest, matters - 1);
                taken("matters " + matters + ";" + well, 2);
                taken(well + "matters " + matters + ";", 2);
                if (matters < 4) {
                    String wrong = String.format(rest, matters);
                    String before = "matters " + matters + ";" + wrong;
                    refused(before, 6, before.length());
                    refused(wrong + "matters " + matters + ";   ", 6, before.length() + 3);
                    refused(before + "zz", 2, before.length());
                }
            }
        }
        taken("rung 12;page 12 1;ask 1;wait 1 0;", 4);
        refused("rung 13;", 6, 8);
        refused("page 13 0;", 6, 10);
        refused("page 12 2;", 6, 10);
        refused("ask 2;", 6, 6);
        refused("wait 2 0;", 6, 9);
    }

    /** Days that are told need not be as the charter wants them. */
    private static void anyDays() {
        NeverAgain x = told("gap 0;near;rung 5 5 6 4 5;");
        C.due("4 day 1", 5, x.day(1));
        C.due("4 day 2", 6, x.day(2));
        C.due("15 may", 8190 & ~bits(4, 5, 6), x.may());
        x = told("gap 20;rung 1 1 1;rung 2;");
        C.due("4 day 3", 2, x.day(3));
    }

    private static void firstFault() {
        refused("gap 21#", 3, 4);
        refused("gap 121#", 1, 4);
        refused("most 3", 3, 5);
        refused("zz 999", 2, 0);
        refused("near;near#", 4, 5);
        refused("page 1 0;page 1#", 4, 14);
        refused("page 1 4#", 3, 7);
        refused("rung 13;zz", 2, 8);
        refused("rung 13;gap 21;", 3, 12);
        refused("ask 2;near;near;", 4, 11);
        refused("ask 2;ask 0 0 0 0 0;", 5, 18);
        refused("matters 1 1 1#", 5, 12);
        refused("book # zz", 1, 5);
        refused("book zz#", 2, 5);
    }

    private static void tokensAlone() {
        refused(";", 2, 0);
        refused("near;;", 2, 5);
        refused("near;5;", 2, 5);
        refused("5", 2, 0);
        refused("#", 1, 0);
        for (int b = 0; b < 256; b++) {
            char c = (char) b;
            boolean begins = c == ';' || c == ' ' || c >= '0' && c <= '9' || c >= 'a' && c <= 'z';
            if (!begins) {
                refused("near;" + c, 1, 5);
                refused("near" + c, 1, 4);
                refused("gap 1" + c, 1, 5);
            } else if (c != ' ') {
                refused("near;" + c, 2, 5);
            }
        }
    }

    private static void inPlaceOfWhatThereWas() {
        NeverAgain x = told("most 5;matters 3 9 8 7;gap 3;near;book told;page 5 2;rung 1 2;ask 2;wait 2 4;");
        x.tell(1);
        x.keep(0);
        x.keep(1);
        C.due("4 all new", 1, tell(x, "rung 3;"));
        int[] rules = {12, 2, 0, 0, 0, 1};
        for (int i = 0; i < 6; i++) {
            C.due("4 rule " + i, rules[i], x.rule(i));
        }
        C.due("4 weight 0", 1, x.weight(0));
        C.due("4 weight 1", 1, x.weight(1));
        C.due("4 page 5", NONE, x.page(5));
        C.due("4 day 0", 3, x.day(0));
        for (int what = 0; what <= 3; what++) {
            C.due("4 count " + what, 0, x.count(what));
        }
        C.due("4 image 0", STATE, x.back(0));
        C.due("4 image 1", STATE, x.back(1));
        x.tell(1);
        x.keep(0);
        C.due("4 none of a text that is none", 0, x.text());
        C.due("4 days are gone", 0, x.rule(5));
        C.due("4 the year is gone", 0, x.count(0));
        C.due("4 the image is gone", STATE, x.back(0));
        severalTexts();
    }

    /** No text leaves anything to a later one. */
    private static void severalTexts() {
        String all = "most 5;matters 3 9 8 7;gap 3;near;book told;page 5 2;rung 1 2;ask 2;wait 2 4;";
        NeverAgain x = new NeverAgain();
        for (int i = 0; i < 3; i++) {
            C.due("4 all", 9, tell(x, all));
        }
        for (int i = 0; i < 3; i++) {
            C.due("4 a fault", -10 - all.length(), tell(x, all + "#"));
        }
        int[] rules = {12, 2, 0, 0, 0, 0};
        for (int texts = 0; texts < 3; texts++) {
            C.due("4 nothing", 0, x.text());
            for (int i = 0; i < 6; i++) {
                C.due("4 rule " + i, rules[i], x.rule(i));
            }
            for (int n = 1; n <= 12; n++) {
                C.due("4 page " + n, NONE, x.page(n));
            }
            C.due("4 weight 0", 1, x.weight(0));
            C.due("4 weight 1", 1, x.weight(1));
            C.due("4 asked", 0, x.count(1));
            C.due("4 waits", 0, x.count(2));
        }
    }

    private static void latestFault() {
        NeverAgain x = new NeverAgain();
        C.due("5 at first", 0, x.fault());
        tell(x, "#");
        C.due("5 one", 1, x.fault());
        x.feed(0x6e6561723b202020L);
        C.due("5 feed is no text", 1, x.fault());
        x.end(4);
        C.due("5 end is no text", 1, x.fault());
        x.ring(1);
        x.keep(0);
        x.back(0);
        C.due("5 back is no text", 1, x.fault());
        C.due("4 two", -14, x.text());
        C.due("5 two", 2, x.fault());
        C.due("4 none", 0, x.text());
        C.due("5 none", 0, x.fault());
    }

    public static void main(String[] args) {
        tokensOutOfPlace("", " ");
        tokensOutOfPlace("  ", "   ");
        tokensOutOfPlace("rung 0 1 ;wait 0 0;", "  ");
        namesOutOfPlace();
        numbersInBounds();
        figures();
        blanks();
        second();
        weights();
        mostOfEach();
        whatThereIsNot();
        anyDays();
        firstFault();
        tokensAlone();
        inPlaceOfWhatThereWas();
        latestFault();
        C.close();
    }
}
