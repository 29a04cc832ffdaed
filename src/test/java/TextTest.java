import java.util.function.ToIntFunction;

/** The terms' part I: which TEXTS are taken, up to which number, and what they then tell. */
public final class TextTest {
    private static final Check CHECK = new Check();
    private static final String EVENT = "event run base 9 line 1 by 1;";
    private static final String[] LINES = {"event run base 9 line 1 by 2", "event field base 9 square 1 by 2 spread 3",
        "event run base 9 root 1 by 2", "event field base 9 table 1 : 2 , 3 : 4 spread 5", "tie none", "tie best", "tie wins",
        "bonus 5 when not [ points 0 + ( 1 - total ) < best ] and done = 1 or least > 2", "athlete", "mark 0 0 5", "gain 0 0 5 in 6"};

    public static void main(String[] args) throws IllegalAccessException {
        CHECK.run(TextTest.class);
    }

    private static TenTrials takes(int lines, String text) {
        TenTrials x = new TenTrials();
        CHECK.due(text, lines, Check.tell(x, text));
        CHECK.due("fault of " + text, 0, x.fault(0));
        CHECK.due("place of " + text, -1, x.fault(1));
        return x;
    }

    /** The fault's place is marked by @ in the text. */
    private static void refuses(int kind, String marked) {
        int place = marked.indexOf('@');
        refuses(kind, place, marked.substring(0, place) + marked.substring(place + 1));
    }

    private static void refuses(int kind, int place, String text) {
        TenTrials x = new TenTrials();
        CHECK.due(text, -4, Check.tell(x, text));
        CHECK.due("fault of " + text, kind, x.fault(0));
        CHECK.due("place of " + text, place, x.fault(1));
    }

    /** A number between two parts of a TEXT: its least and greatest values are read, those beside them are faults. */
    private static void bounds(String before, int low, int high, String after, ToIntFunction<TenTrials> read) {
        for (int n : new int[] {low, low + 1, high - 1, high}) {
            String text = before + n + after;
            TenTrials x = Check.told(text);
            CHECK.due("what is read of " + text, n, read.applyAsInt(x));
            TenTrials zeros = Check.told(before + "0000000000000" + n + after);
            CHECK.due("with zeros ahead, what is read of " + text, n, read.applyAsInt(zeros));
        }
        if (low > 0) {
            refuses(2, before.length(), before + (low - 1) + after);
        }
        refuses(1, before.length(), before + "-1" + after);
        for (String above : new String[] {String.valueOf(high + 1), "2147483648", "4294967296", "18446744073709551616", (high + 1) + "00000000"}) {
            refuses(2, before.length(), before + above + after);
        }
    }

    @Sentence(of = "I", says = "TEXT: {LINE ;}.")
    private static void linesEndBySemicolons() {
        takes(0, "");
        takes(0, " \n ");
        takes(1, "athlete;");
        takes(3, "athlete;\nathlete ; athlete;");
        refuses(1, "@;");
        refuses(1, "athlete;@;");
        refuses(1, "athlete@");
        refuses(1, "athlete @athlete;");
        // 1200 bytes of LINES, as many of them as there can be.
        StringBuilder most = new StringBuilder("event run base 0 line 1 by 1;athlete;");
        int lines = 2;
        for (; most.length() + 11 <= 1200; lines++) {
            most.append("mark 0 0 5;");
        }
        takes(lines, most.toString());
    }

    @Sentence(of = "I", says = "LINE: event (run | field) base N CURVE [spread N] | tie (none | best | wins) | bonus N when TEST | athlete | mark A E N | gain A E N in N.")
    private static void eachLine() {
        String start = EVENT + "athlete;";
        for (String line : LINES) {
            takes(3, start + line + ";");
            String[] tokens = line.split(" ");
            StringBuilder text = new StringBuilder(start);
            for (int i = 0; i < tokens.length; i++) {
                // Nothing that is no TOKEN stands anywhere, no LINE ends ahead of its last TOKEN, and none without ;
                refuses(1, text.length(), text + "#" + line);
                if (i > 0) {
                    refuses(1, text.length(), text.toString());
                }
                text.append(tokens[i]);
                refuses(1, text.length(), text.toString());
                refuses(1, text.length(), text + "#");
                text.append(' ');
            }
            refuses(1, text.length(), text + "event");
            refuses(1, text.length(), text + "athlete;");
        }
        refuses(1, "event @walk base 9 line 1 by 1;");
        refuses(1, "event run @9 line 1 by 1;");
        refuses(1, "event @base 9 line 1 by 1;");
        refuses(1, "event run base @line 1 by 1;");
        refuses(1, "event run base 9 @spread 5 line 1 by 1;");
        refuses(1, "event run base 9 line 1 by 1 @5;");
        refuses(1, "event run base 9 line 1 by 1 spread 5 @spread 5;");
        refuses(1, "tie @some;");
        refuses(1, "tie best @wins;");
        refuses(1, "bonus @when 1=1;");
        refuses(1, "bonus 5 @1=1;");
        refuses(1, "athlete @0;");
        refuses(1, start + "mark 0 0@;");
        refuses(1, start + "mark 0 0 5 @5;");
        refuses(1, start + "gain 0 0 5 @6;");
        refuses(1, start + "gain 0 0 5 in 6 @in 6;");
        refuses(1, "@run base 9 line 1 by 1;");
    }

    @Sentence(of = "I", says = "CURVE: line N by N | square N by N | root N by N | table N : N {, N : N}.")
    private static void eachCurve() {
        String[] names = {"line", "square", "root"};
        for (int curve = 0; curve < 3; curve++) {
            String text = "event run base 9 " + names[curve] + " 12 by 34;";
            TenTrials x = takes(1, text);
            CHECK.due("CURVE of " + text, curve, x.event(0, 2));
            CHECK.due("its first N", 12, x.event(0, 3));
            CHECK.due("its second N", 34, x.event(0, 4));
            refuses(1, "event run base 9 " + names[curve] + " @by 34;");
            refuses(1, "event run base 9 " + names[curve] + " 12 @34;");
            refuses(1, "event run base 9 " + names[curve] + " 12 @: 34;");
            refuses(1, "event run base 9 " + names[curve] + " 12 by @;");
        }
        for (int twos = 1; twos <= 8; twos++) {
            TenTrials x = takes(1, "event run base 9 table " + twos(twos) + ";");
            CHECK.due("CURVE of a table", 3, x.event(0, 2));
            CHECK.due("how many twos", twos, x.event(0, 3));
            CHECK.due("no second N", -1, x.event(0, 4));
        }
        refuses(1, "event run base 9 table@;");
        refuses(1, "event run base 9 table @:5;");
        refuses(1, "event run base 9 table 5 @5;");
        refuses(1, "event run base 9 table 5 @by 5;");
        refuses(1, "event run base 9 table 5:@;");
        refuses(1, "event run base 9 table 5:5 @6:6;");
        refuses(1, "event run base 9 table 5:5,@;");
        refuses(1, "event run base 9 table 5:5,@,6:6;");
        refuses(1, "event run base 9 @curve 5 by 5;");
    }

    private static String twos(int count) {
        StringBuilder twos = new StringBuilder("1:1");
        for (int i = 2; i <= count; i++) {
            twos.append(", ").append(i).append(" : ").append(i);
        }
        return twos.toString();
    }

    @Sentence(of = "I", says = "EVENTS 0 .. 9, ATHLETES 0 .. 7 as they stand;")
    private static void numbersAsTheyStand() {
        StringBuilder text = new StringBuilder();
        for (int i = 0; i < 10; i++) {
            text.append("event field base ").append(10 * i).append(" line 1 by 1;");
            text.append(i < 8 ? "athlete;mark " + i + " 0 " + (100 + i) + ";" : "");
        }
        TenTrials x = takes(26, text.toString());
        for (int e = 0; e < 10; e++) {
            CHECK.due("base of event " + e, 10 * e, x.event(e, 1));
        }
        for (int a = 0; a < 8; a++) {
            CHECK.due("mark of athlete " + a, 100 + a, x.mark(a, 0));
        }
        CHECK.due("event 10", -2, x.event(10, 1));
        CHECK.due("athlete 8", -2, x.mark(8, 0));
    }

    @Sentence(of = "I", says = "event, athlete: no more than 10, 8;")
    private static void noMoreThanTenAndEight() {
        for (int n = 1; n <= 10; n++) {
            CHECK.due("events", n, takes(n, EVENT.repeat(n)).count(0));
        }
        refuses(4, EVENT.repeat(10) + "@" + EVENT);
        for (int n = 1; n <= 8; n++) {
            CHECK.due("athletes", n, takes(n, "athlete;".repeat(n)).count(1));
        }
        refuses(4, "athlete;".repeat(8) + "@athlete;");
        TenTrials both = takes(18, EVENT.repeat(10) + "athlete;".repeat(8));
        CHECK.due("ten", 10, both.count(0));
        CHECK.due("eight", 8, both.count(1));
    }

    @Sentence(of = "I", says = "tie once (none without);")
    private static void tieOnce() {
        CHECK.due("tie without", 0, takes(1, "athlete;").count(3));
        CHECK.due("tie of the empty TEXT", 0, takes(0, "").count(3));
        String[] names = {"none", "best", "wins"};
        for (int tie = 0; tie < 3; tie++) {
            CHECK.due("tie " + names[tie], tie, takes(2, "athlete;tie " + names[tie] + ";").count(3));
            for (String again : names) {
                refuses(3, "tie " + names[tie] + ";@tie " + again + ";");
            }
        }
        TenTrials x = Check.told("tie best;");
        CHECK.due("once in another TEXT, too", 1, Check.tell(x, "tie wins;"));
        CHECK.due("tie of the other one", 2, x.count(3));
        CHECK.due("a TEXT without", 0, Check.tell(x, ""));
        CHECK.due("none without, whatever was", 0, x.count(3));
        Check.tell(x, "tie best;x");
        CHECK.due("once behind a faulty TEXT, too", 1, Check.tell(x, "tie wins;"));
    }

    @Sentence(of = "I", says = "4 bonus at most.")
    private static void fourBonuses() {
        for (int n = 0; n <= 4; n++) {
            CHECK.due("bonuses", n, takes(n, "bonus 1 when 1=1;".repeat(n)).count(2));
        }
        refuses(4, "bonus 1 when 1=1;".repeat(4) + "@bonus 1 when 1=1;");
        // Those of another TEXT, taken or faulty, are none of this one's.
        TenTrials x = Check.told("bonus 1 when 1=1;".repeat(4));
        for (int i = 0; i < 3; i++) {
            CHECK.due("four in another TEXT, too", 4, Check.tell(x, "bonus 2 when 1=1;".repeat(4)));
            CHECK.due("a fifth in another TEXT", -4, Check.tell(x, "bonus 3 when 1=1;".repeat(5)));
        }
        for (int i = 0; i < 3; i++) {
            CHECK.due("a TEXT without", 1, Check.tell(x, "athlete;"));
            CHECK.due("bonuses without", 0, x.count(2));
            CHECK.due("what they come to", 0, x.of(0, 2));
            CHECK.due("TEST of the first one without", -2, x.holds(0, 0));
        }
    }

    @Sentence(of = "I", says = "TEST: SIDE {or SIDE}.")
    private static void longTestsOneBehindTheOther() {
        TenTrials x = new TenTrials();
        String start = "athlete;bonus 5 when 1=1";
        String longest = start + " or 1=1".repeat((1199 - start.length()) / 7) + ";";
        for (int i = 0; i < 6; i++) {
            CHECK.due("a long TEXT", 2, Check.tell(x, longest));
            CHECK.due("its TEST", 1, x.holds(0, 0));
        }
        CHECK.due("a faulty one", -4, Check.tell(x, longest.replace(";", " ;").substring(0, 1190) + "#"));
        CHECK.due("a short TEXT", 3, Check.tell(x, "athlete;bonus 5 when 1=2;bonus 6 when 1=1;"));
        CHECK.due("its first TEST", 0, x.holds(0, 0));
        CHECK.due("its second TEST", 1, x.holds(1, 0));
    }

    @Sentence(of = "I", says = "base 0 .. 99999;")
    private static void baseBounds() {
        bounds("event run base ", 0, 99999, " line 1 by 1;", x -> x.event(0, 1));
        bounds("event field base ", 0, 99999, " table 1:1;", x -> x.event(0, 1));
    }

    @Sentence(of = "I", says = "the first N of line, square, root 1 .. 9999, the second 1 .. 99999;")
    private static void formulaBounds() {
        for (String curve : new String[] {"line", "square", "root"}) {
            bounds("event run base 9 " + curve + " ", 1, 9999, " by 1;", x -> x.event(0, 3));
            bounds("event run base 9 " + curve + " 1 by ", 1, 99999, ";", x -> x.event(0, 4));
            bounds("event field base 9 " + curve + " 1 by ", 1, 99999, " spread 5;", x -> x.event(0, 4));
        }
    }

    @Sentence(of = "I", says = "table: 8 twos at most, the first of each 0 .. 99999, rising, the second 0 .. 2000, not falling;")
    private static void tableBounds() {
        takes(1, "event run base 9 table " + twos(8) + ";");
        refuses(4, "event run base 9 table " + twos(8) + ",@9:9;");
        // What the table has at its number tells that it was read: the way from the base, 0, is the mark itself.
        bounds("event field base 0 table ", 0, 99999, ":7;", x -> x.worst(0, 7));
        bounds("event field base 0 table 0:", 0, 2000, ";", x -> x.points(0, 0));
        bounds("event field base 0 table 0:1,", 1, 99999, ":7;", x -> x.worst(0, 7));
        bounds("event field base 0 table 50:1,", 51, 99999, ":7;", x -> x.worst(0, 7));
        bounds("event field base 0 table 50:10,60:", 10, 2000, ";", x -> x.points(0, 60));
        bounds("event field base 0 table " + twos(7) + ",", 8, 99999, ":9;", x -> x.worst(0, 9));
        bounds("event field base 0 table " + twos(7) + ",9:", 7, 2000, ";", x -> x.points(0, 9));
        takes(1, "event run base 9 table 0:0,1:0,99999:0;");
        takes(1, "event run base 9 table 0:2000,1:2000,99999:2000;");
        refuses(2, "event run base 9 table 99999:5,@99999:5;");
        refuses(2, "event run base 9 table 1:5,2:6,@2:7;");
        refuses(2, "event run base 9 table 1:5,2:6,3:@5;");
        // The next EVENT's table begins anew.
        takes(2, "event run base 9 table 5:5,6:6;event run base 9 table 0:0;");
    }

    @Sentence(of = "I", says = "spread 0 .. 999 (0 without);")
    private static void spreadBounds() {
        bounds("event run base 9 line 1 by 1 spread ", 0, 999, ";", x -> x.event(0, 5));
        bounds("event run base 9 table 1:1 spread ", 0, 999, ";", x -> x.event(0, 5));
        CHECK.due("spread without", 0, Check.told(EVENT).event(0, 5));
        TenTrials x = Check.told("event run base 9 line 1 by 1 spread 999;");
        // Three TEXTS, so that each place in which one may be held has held the first.
        for (int i = 0; i < 3; i++) {
            Check.tell(x, EVENT);
            CHECK.due("spread without, where there was one", 0, x.event(0, 5));
        }
    }

    @Sentence(of = "I", says = "bonus 1 .. 500;")
    private static void bonusBounds() {
        bounds("bonus ", 1, 500, " when 1=1;", x -> x.bonus(0));
        bounds("bonus 7 when 1=1;bonus ", 1, 500, " when 1=1;", x -> x.bonus(1));
    }

    @Sentence(of = "I", says = "A, E told ahead;")
    private static void toldAhead() {
        for (int told = 1; told <= 8; told++) {
            String start = EVENT + "athlete;".repeat(told);
            for (String line : new String[] {"mark ", "gain "}) {
                String rest = line.equals("mark ") ? " 0 5;" : " 0 5 in 5;";
                takes(told + 2, start + line + (told - 1) + rest);
                refuses(2, start + line + "@" + told + rest);
                refuses(2, start + line + "@" + told + rest + "athlete;");
            }
        }
        for (int told = 1; told <= 10; told++) {
            String start = "athlete;" + EVENT.repeat(told);
            takes(told + 2, start + "mark 0 " + (told - 1) + " 5;");
            takes(told + 2, start + "gain 0 " + (told - 1) + " 5 in 5;");
            takes(told + 2, start + "bonus 5 when points " + (told - 1) + " = 5;");
            refuses(2, start + "mark 0 @" + told + " 5;" + EVENT);
            refuses(2, start + "gain 0 @" + told + " 5 in 5;" + EVENT);
            refuses(2, start + "bonus 5 when points @" + told + " = 5;" + EVENT);
        }
        refuses(2, "mark @0 0 5;athlete;" + EVENT);
        refuses(2, "athlete;mark 0 @0 5;" + EVENT);
        refuses(2, "gain @0 0 5 in 5;athlete;" + EVENT);
        refuses(2, "athlete;gain 0 @0 5 in 5;" + EVENT);
        refuses(2, "bonus 5 when points @0 = 5;" + EVENT);
        refuses(2, EVENT + "athlete;mark @4294967296 0 5;");
        refuses(2, EVENT + "athlete;mark 0 @4294967296 5;");
        refuses(2, EVENT + "bonus 5 when points @4294967296 = 5;");
        // What another TEXT told is not told ahead.
        TenTrials x = Check.told(EVENT + "athlete;");
        CHECK.due("told by another TEXT", -4, Check.tell(x, "mark 0 0 5;"));
        CHECK.due("its place", 5, x.fault(1));
        Check.tell(x, EVENT + "athlete;#");
        CHECK.due("told by a faulty TEXT", -4, Check.tell(x, "mark 0 0 5;"));
        CHECK.due("its place", 5, x.fault(1));
    }

    @Sentence(of = "I", says = "mark, a gain's first N 0 .. 99999, its second 1 .. 999;")
    private static void markAndGainBounds() {
        String start = EVENT + "athlete;";
        bounds(start + "mark 0 0 ", 0, 99999, ";", x -> x.mark(0, 0));
        bounds(start + "gain 0 0 ", 0, 99999, " in 5;", x -> x.gains(0, 0, 0));
        bounds(start + "gain 0 0 5 in ", 1, 999, ";", x -> x.gains(0, 0, 1));
    }

    @Sentence(of = "I", says = "of two marks, gains of one ATHLETE in one EVENT the last counts.")
    private static void theLastCounts() {
        TenTrials x = takes(12, EVENT + EVENT + "athlete;athlete;mark 0 0 7;mark 0 1 8;mark 1 0 9;mark 0 0 5;"
            + "gain 0 0 7 in 8;gain 0 1 1 in 2;gain 1 0 3 in 4;gain 0 0 5 in 6;");
        int[][] want = {{5, 5, 6}, {8, 1, 2}, {9, 3, 4}, {-1, -1, -1}};
        for (int cell = 0; cell < 4; cell++) {
            CHECK.due("mark of cell " + cell, want[cell][0], x.mark(cell / 2, cell % 2));
            CHECK.due("G of cell " + cell, want[cell][1], x.gains(cell / 2, cell % 2, 0));
            CHECK.due("H of cell " + cell, want[cell][2], x.gains(cell / 2, cell % 2, 1));
        }
    }

    /** A TEST for one with 7 and 3 POINTS of three EVENTS. */
    private static void test(int want, String test) {
        TenTrials x = Check.told("event field base 0 line 1 by 1;".repeat(3) + "athlete;mark 0 0 7;mark 0 2 3;bonus 500 when " + test + ";");
        CHECK.due(test, want, x.holds(0, 0));
    }

    @Sentence(of = "I", says = "TEST: SIDE {or SIDE}. SIDE: FACT {and FACT}.")
    private static void sidesAndFacts() {
        for (int bits = 0; bits < 8; bits++) {
            int a = bits >> 2;
            int b = bits >> 1 & 1;
            int c = bits & 1;
            String[] facts = {"1=" + a, "1=" + b, "1=" + c};
            test(a | b & c, facts[0] + " or " + facts[1] + " and " + facts[2]);
            test(a & b | c, facts[0] + " and " + facts[1] + " or " + facts[2]);
            test(a | b | c, String.join(" or ", facts));
            test(a & b & c, String.join(" and ", facts));
        }
        refuses(1, "bonus 5 when @or 1=1;");
        refuses(1, "bonus 5 when 1=1 or@;");
        refuses(1, "bonus 5 when 1=1 and@;");
        refuses(1, "bonus 5 when 1=1 and @or 1=1;");
        refuses(1, "bonus 5 when 1=1 @1=1;");
        refuses(1, "bonus 5 when@;");
    }

    @Sentence(of = "I", says = "FACT: not FACT | [ TEST ] | SUM (\u2039 | = | \u203a) SUM.")
    private static void facts() {
        for (int left = 4; left <= 6; left++) {
            test(left < 5 ? 1 : 0, left + " < 5");
            test(left == 5 ? 1 : 0, left + " = 5");
            test(left > 5 ? 1 : 0, left + " > 5");
            test(left < 5 ? 0 : 1, "not " + left + " < 5");
            test(left < 5 ? 1 : 0, "not not " + left + " < 5");
            test(left < 5 ? 1 : 0, "[" + left + " < 5]");
        }
        // not is of its FACT alone, [ ] of all of its TEST.
        test(0, "not 1=1 and 1=2");
        test(1, "not 1=2 or 1=1");
        test(1, "not [1=1 and 1=2]");
        test(0, "[1=1 or 1=1] and 1=2");
        test(0, "1=2 and [1=1 or 1=1]");
        refuses(1, "bonus 5 when 1@;");
        refuses(1, "bonus 5 when 1 = 1 @= 1;");
        refuses(1, "bonus 5 when 1 <@= 1;");
        refuses(1, "bonus 5 when [1@];");
        refuses(1, "bonus 5 when [1=1]@=1;");
        refuses(1, "bonus 5 when [1=1@;");
        refuses(1, "bonus 5 when [1=1@);");
        refuses(1, "bonus 5 when [@];");
        refuses(1, "bonus 5 when 1=1@];");
        refuses(1, "bonus 5 when not@;");
        refuses(1, "bonus 5 when 1=@not 1=1;");
        refuses(1, "bonus 5 when 1=@[1=1];");
        refuses(1, "bonus 5 when 1 @\u008b 1;");
    }

    @Sentence(of = "I", says = "SUM: TERM {(+ | -) TERM}.")
    private static void sums() {
        test(1, "9-4-3=2");
        test(1, "9-4+3=8");
        test(1, "9-(4+3)=2");
        test(1, "1-2<0");
        test(1, "0-99999-99999<0-99999");
        test(1, "99999+99999>99999");
        refuses(1, "bonus 5 when @+1=1;");
        refuses(1, "bonus 5 when @-1=1;");
        refuses(1, "bonus 5 when 1+@=1;");
        refuses(1, "bonus 5 when 1+@-1=1;");
        refuses(1, "bonus 5 when 1 @1=1;");
        // As many of the greatest TERMS as a TAPE has room for do not wrap around.
        String most = "99999" + "+99999".repeat(170);
        TenTrials x = takes(2, "athlete;bonus 5 when " + most + ">0;");
        CHECK.due("a long sum is above 0", 1, x.holds(0, 0));
        TenTrials y = takes(2, "athlete;bonus 5 when 0" + "-99999".repeat(170) + "<0;");
        CHECK.due("a long difference is below 0", 1, y.holds(0, 0));
    }

    @Sentence(of = "I", says = "TERM: NUMBER (0 .. 99999) | points E | total | done | best | least | ( SUM ).")
    private static void terms() {
        test(1, "0=0");
        test(1, "99999=99998+1");
        test(1, "00099999=99999");
        refuses(2, "bonus 5 when @100000=1;");
        refuses(2, "bonus 5 when 1=@100000;");
        refuses(2, "bonus 5 when 1+(@100000)=1;");
        refuses(2, "bonus 5 when 1=@4294967297;");
        test(1, "points 0=7");
        test(1, "points 1=0");
        test(1, "points 2=3");
        test(1, "total=10");
        test(1, "done=2");
        test(1, "best=7");
        test(1, "least=3");
        test(1, "(total)=(7+3)");
        refuses(1, "bonus 5 when @wins=1;");
        refuses(1, "bonus 5 when points@=1;");
        refuses(1, EVENT + "bonus 5 when points @total=1;");
        refuses(1, EVENT + "bonus 5 when points @(0)=1;");
        refuses(1, "bonus 5 when (@)=1;");
        refuses(1, "bonus 5 when (1@=1);");
        refuses(1, "bonus 5 when (1@]=1;");
        refuses(1, "bonus 5 when 1@)=1;");
    }

    /** So many not and [ by the bits of kinds, then so many (: what opens, and what closes again. */
    private static void nested(int tests, int kinds, int sums) {
        StringBuilder opens = new StringBuilder("bonus 5 when ");
        StringBuilder closes = new StringBuilder();
        int seventh = -1;
        for (int i = 0; i < tests + sums; i++) {
            seventh = i == 6 ? opens.length() : seventh;
            boolean negates = i < tests && (kinds >> i & 1) == 1;
            opens.append(i >= tests ? "(" : negates ? "not " : "[");
            closes.append(i >= tests || negates ? "" : "]");
        }
        String text = "athlete;" + opens + "1" + ")".repeat(sums) + "=1" + closes + ";";
        if (tests + sums <= 6) {
            CHECK.due("TEST of " + text, Integer.bitCount(kinds) % 2 == 0 ? 1 : 0, takes(2, text).holds(0, 0));
        } else {
            refuses(4, 8 + seventh, text);
        }
    }

    @Sentence(of = "I", says = "not, [ and ( are 6 at most within each other.")
    private static void sixWithinEachOther() {
        for (int tests = 0; tests <= 8; tests++) {
            for (int kinds = 0; kinds < 1 << tests; kinds++) {
                for (int depth = Math.max(5, tests); depth <= 8; depth++) {
                    nested(tests, kinds, depth - tests);
                }
            }
        }
        // Side by side they are not within each other.
        takes(1, "bonus 5 when [1=1]" + " and [1=1]".repeat(40) + ";");
        takes(1, "bonus 5 when not 1=1" + " or not 1=1".repeat(40) + ";");
        takes(1, "bonus 5 when (1)" + "+(1)".repeat(40) + "=1;");
        takes(1, "bonus 5 when [[[[[[1=1]]]]]] and not not not not not not 1=1 or ((((((1))))))=((((((1))))));");
        takes(1, "bonus 5 when not [not [not (1)=(1) and not (1)=(1)] and not (1)=(1)];");
        // The second side of a FACT is within as much as the first one.
        refuses(4, "bonus 5 when [[[[[[1=@(1)]]]]]];");
        refuses(4, "bonus 5 when [[[[[[1=1 and @not 1=1]]]]]];");
        refuses(4, "bonus 5 when [[[[[[1=1 or @[1=1]]]]]]];");
        refuses(4, "bonus 5 when ((((((1+@(1)))))))=1;");
        takes(1, "bonus 5 when [[[[[1=(1)]]]]];");
    }

    @Sentence(of = "I", says = "TOKENS, blanks (32, 10) aside, the longest: words (a .. z), numbers (digits), else single bytes.")
    private static void everyByte() {
        for (int b = 0; b < 256; b++) {
            String text = "athlete" + (char) b + ";";
            if (b == 32 || b == 10) {
                takes(1, text);
            } else if (b >= 'a' && b <= 'z') {
                refuses(1, 0, text);
            } else {
                refuses(1, b == ';' ? 8 : 7, text);
            }
            String number = "bonus 5" + (char) b + " when 1=1;";
            if (b == 32 || b == 10) {
                takes(1, number);
            } else if (b >= '0' && b <= '9') {
                takes(1, number);
            } else {
                refuses(1, 7, number);
            }
        }
        takes(1, "event run base5line1by1spread2;");
        takes(1, "\n\n event\nrun\n\nbase  5 line 1\nby 1 ; \n");
        refuses(1, "@ath lete;");
        refuses(1, "@eventrun base 5 line 1 by 1;");
        refuses(1, "event run base 1 @0 line 1 by 1;");
        refuses(1, "@athletes;");
        refuses(1, "@a;");
        refuses(1, "@zathlete;");
        CHECK.due("10 is one number", 10, Check.told("event run base 10 line 1 by 1;").event(0, 1));
    }
}
