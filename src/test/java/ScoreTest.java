/** Promises 13 to 21, 42, 43, 46, 47 and 49 with the terms' part II: marks, totals with bonuses, ranks, who leads, who is behind. */
public final class ScoreTest {
    private static final Check CHECK = new Check();
    // POINTS: 60 60 - | 40 80 9 | 60 - 69 | - - -; TOTALS 130, 139, 138, 1; wins 1, 1, 2, 0.
    private static final String TEXT = "event run base 100 line 1 by 1;event field base 0 line 2 by 1;"
        + "event field base 0 line 1 by 10;athlete;athlete;athlete;athlete;"
        + "mark 0 0 40;mark 0 1 30;mark 1 0 60;mark 1 1 40;mark 1 2 95;mark 2 0 99;mark 2 0 40;mark 2 2 690;"
        + "bonus 10 when done > 2;bonus 9 when points 0 = 60 and not done < 2;"
        + "bonus 500 when total > 1000 or least > best;bonus 1 when best - least < 1;";
    private static final String FIELD = "event field base 0 line 1 by 1;";

    public static void main(String[] args) throws IllegalAccessException {
        CHECK.run(ScoreTest.class);
    }

    @Sentence(of = "13", says = {"The MARK of an ATHLETE in an EVENT.", "NONE: none;"})
    private static void marks() {
        TenTrials x = Check.told(TEXT);
        int[][] marks = {{40, 30, -1, -2}, {60, 40, 95, -2}, {40, -1, 690, -2}, {-1, -1, -1, -2}, {-2, -2, -2, -2}};
        for (int a = 0; a < 5; a++) {
            for (int e = 0; e < 4; e++) {
                CHECK.due("mark(" + a + ", " + e + ")", marks[a][e], x.mark(a, e));
            }
        }
        CHECK.due("mark(-1, 0)", -2, x.mark(-1, 0));
        CHECK.due("mark(0, -1)", -2, x.mark(0, -1));
        x.sets(3, 2, 0);
        CHECK.due("0 is a mark", 0, x.mark(3, 2));
        CHECK.due("the last cell of all", 99999, Check.told(FIELD.repeat(10) + "athlete;".repeat(8) + "mark 7 9 99999;").mark(7, 9));
    }

    @Sentence(of = "14", says = "POINTS of an ATHLETE in an EVENT.")
    private static void worths() {
        TenTrials x = Check.told(TEXT);
        int[][] worths = {{60, 60, 0, -2}, {40, 80, 9, -2}, {60, 0, 69, -2}, {0, 0, 0, -2}, {-2, -2, -2, -2}};
        for (int a = 0; a < 5; a++) {
            for (int e = 0; e < 4; e++) {
                CHECK.due("worth(" + a + ", " + e + ")", worths[a][e], x.worth(a, e));
            }
        }
        CHECK.due("worth(-1, 0)", -2, x.worth(-1, 0));
        CHECK.due("worth(0, -1)", -2, x.worth(0, -1));
        CHECK.due("the last cell of all", 2000, Check.told(FIELD.repeat(10) + "athlete;".repeat(8) + "mark 7 9 99999;").worth(7, 9));
    }

    @Sentence(of = "15", says = "Of an ATHLETE, what 0: TOTAL, 1: POINTS of all EVENTS, 2: what the bonuses come to, 3: done, 4: best, 5: least, 6: wins.")
    private static void of() {
        TenTrials x = Check.told(TEXT);
        int[][] rows = {{130, 120, 10, 2, 60, 60, 1, -2}, {139, 129, 10, 3, 80, 9, 1, -2},
            {138, 129, 9, 2, 69, 60, 2, -2}, {1, 0, 1, 0, 0, 0, 0, -2}};
        for (int a = 0; a < rows.length; a++) {
            for (int what = 0; what < rows[a].length; what++) {
                CHECK.due("of(" + a + ", " + what + ")", rows[a][what], x.of(a, what));
            }
        }
        CHECK.due("of(0, -1)", -2, x.of(0, -1));
        TenTrials most = Check.told(FIELD.repeat(10) + "athlete;bonus 500 when 1=1;bonus 500 when 1=1;bonus 500 when 1=1;bonus 500 when 1=1;");
        for (int e = 0; e < 10; e++) {
            most.sets(0, e, 99999);
        }
        int[] greatest = {22000, 20000, 2000, 10, 2000, 2000, 10};
        for (int what = 0; what <= 6; what++) {
            CHECK.due("the most of " + what, greatest[what], most.of(0, what));
        }
        TenTrials none = Check.told("athlete;bonus 7 when done = 0;");
        int[] least = {7, 0, 7, 0, 0, 0, 0};
        for (int what = 0; what <= 6; what++) {
            CHECK.due("without events, of " + what, least[what], none.of(0, what));
        }
    }

    @Sentence(of = "II", says = "TOTAL: POINTS of all EVENTS and the bonus of each TEST that is so.")
    private static void totals() {
        TenTrials x = Check.told(FIELD.repeat(2) + "athlete;athlete;mark 0 0 30;mark 0 1 40;mark 1 0 70;"
            + "bonus 1 when 1=1;bonus 20 when done=2;bonus 300 when done=1;bonus 500 when 1=2;");
        CHECK.due("two of four", 91, x.of(0, 0));
        CHECK.due("two others of four", 371, x.of(1, 0));
        CHECK.due("all that is so, at once", 21, x.of(0, 2));
        // A bonus that is paid makes no other TEST so.
        TenTrials y = Check.told("athlete;bonus 500 when total = 0;bonus 400 when total > 0;bonus 1 when total = 0;");
        CHECK.due("bonuses are no part of total", 501, y.of(0, 0));
    }

    /** A TEST for one with 7 and 3 POINTS of three EVENTS, no MARK in the one between. */
    private static void test(int want, String test) {
        TenTrials x = Check.told(FIELD.repeat(3) + "athlete;mark 0 0 7;mark 0 2 3;bonus 500 when " + test + ";");
        CHECK.due(test, want, x.holds(0, 0));
        CHECK.due("the total with " + test, 10 + 500 * want, x.of(0, 0));
    }

    @Sentence(of = "II", says = "WORDS of TESTS: points E: POINTS in E; total: POINTS of all EVENTS (no bonus); done: in how many EVENTS there is a MARK; best, least: the most, the fewest POINTS of EVENTS in which there is a MARK (0 without).")
    private static void words() {
        test(1, "points 0=7 and points 1=0 and points 2=3");
        test(1, "total=10 and done=2 and best=7 and least=3");
        test(1, "total + best - (least + done) - points 2 = 9");
        TenTrials x = Check.told("event field base 9 line 1 by 1;event field base 9 line 1 by 1;athlete;athlete;"
            + "bonus 1 when done = 0;bonus 2 when done = 2;bonus 4 when best = 0 and least = 0;bonus 8 when least = 0 and best = 5;mark 1 0 14;mark 1 1 3;");
        CHECK.due("without a mark all are 0", 5, x.of(0, 2));
        CHECK.due("a mark that is worth nothing is one", 10, x.of(1, 2));
        x.sets(1, 1, -1);
        CHECK.due("without it the least is another one", 0, x.of(1, 2));
        CHECK.due("least", 5, x.of(1, 5));
        CHECK.due("done", 1, x.of(1, 3));
        x.sets(1, 0, -1);
        CHECK.due("none at all: best", 0, x.of(1, 4));
        CHECK.due("none at all: least", 0, x.of(1, 5));
        TenTrials ten = Check.told(FIELD.repeat(10) + "athlete;mark 0 9 6;bonus 3 when points 9 = 6 and points 0 = 0;");
        CHECK.due("points of the last event", 1, ten.holds(0, 0));
    }

    @Sentence(of = "16", says = "1 if the TEST of a bonus (k, as they stand) is so for an ATHLETE, else 0.")
    private static void holds() {
        TenTrials x = Check.told(TEXT);
        int[][] holds = {{0, 1, 0, 0}, {1, 0, 1, 0}, {0, 0, 0, 0}, {1, 0, 0, 1}};
        for (int k = 0; k < 4; k++) {
            for (int a = 0; a < 4; a++) {
                CHECK.due("holds(" + k + ", " + a + ")", holds[k][a], x.holds(k, a));
            }
        }
        CHECK.due("holds(4, 0)", -2, x.holds(4, 0));
        CHECK.due("holds(-1, 0)", -2, x.holds(-1, 0));
        CHECK.due("holds(0, 4)", -2, x.holds(0, 4));
        CHECK.due("holds(0, -1)", -2, x.holds(0, -1));
        test(1, "10-4-3=3");
        test(1, "10-(4-3)=9");
        test(1, "(((((99999))))) + 99999 + 99999 = 99999 + 99999 + 99999");
        test(1, "[[[[[1=2 or 1=2 and 1=1 or 1+2-(1-2)=1+1+1+1 and 1=1]]]]]");
        // As much as can wait: on each of six levels a side of or, one of and, and a sum.
        String deep = "7=7";
        for (int i = 0; i < 6; i++) {
            deep = "1=2 or 1=1 and [" + deep + "]";
        }
        test(1, deep);
        test(1, "1=2 or 1=1 and [1=2 or 1=1 and [1=2 or 1=1 and 9+(9-(9+(9-7)))+4=11]]");
    }

    @Sentence(of = "17", says = "What the k-th bonus is.")
    private static void bonuses() {
        TenTrials x = Check.told(TEXT);
        int[] amounts = {10, 9, 500, 1, -2};
        for (int k = 0; k < amounts.length; k++) {
            CHECK.due("bonus(" + k + ")", amounts[k], x.bonus(k));
        }
        CHECK.due("bonus(-1)", -2, x.bonus(-1));
        CHECK.due("bonus(0) without any", -2, Check.told("athlete;").bonus(0));
        TenTrials one = Check.told("bonus 500 when 1=1;");
        CHECK.due("without athletes", 500, one.bonus(0));
        CHECK.due("one alone", -2, one.bonus(1));
    }

    private static void order(String name, TenTrials x, int... order) {
        for (int k = 0; k < order.length; k++) {
            CHECK.due(name + " place(" + k + ")", order[k], x.place(k));
            CHECK.due(name + " rank(" + order[k] + ")", k, x.rank(order[k]));
        }
        CHECK.due(name + " place behind the last", -1, x.place(order.length));
    }

    @Sentence(of = "18", says = {"The ATHLETE at the k-th place (from 0) by RANK.", "NONE: not so many;"})
    private static void places() {
        TenTrials x = Check.told(TEXT);
        int[] places = {1, 2, 0, 3, -1, -1};
        for (int k = 0; k < places.length; k++) {
            CHECK.due("place(" + k + ")", places[k], x.place(k));
        }
        CHECK.due("place(-1)", -2, x.place(-1));
        CHECK.due("place(2147483647)", -1, x.place(2147483647));
        CHECK.due("place(0) of nobody", -1, Check.told("").place(0));
        CHECK.due("place(-1) of nobody", -2, Check.told("").place(-1));
        TenTrials eight = Check.told(FIELD + "athlete;".repeat(8) + "mark 7 0 5;");
        CHECK.due("the first of eight", 7, eight.place(0));
        CHECK.due("the last of eight", 6, eight.place(7));
        CHECK.due("the ninth of eight", -1, eight.place(8));
    }

    @Sentence(of = "19", says = "At which place (from 0) an ATHLETE is.")
    private static void ranks() {
        TenTrials x = Check.told(TEXT);
        order("ranks", x, 1, 2, 0, 3);
        CHECK.due("rank(4)", -2, x.rank(4));
        CHECK.due("rank(-1)", -2, x.rank(-1));
        CHECK.due("rank(0) of nobody", -2, Check.told("").rank(0));
        CHECK.due("alone", 0, Check.told("athlete;").rank(0));
    }

    @Sentence(of = "II", says = "RANK: who has more TOTAL is ahead; of like ones tie best: who has more best; wins: who has the most POINTS (above 0) of all in more EVENTS (others may have as many); then (none: at once) the lesser number.")
    private static void ties() {
        TenTrials x = Check.told(FIELD.repeat(3) + "athlete;athlete;athlete;athlete;mark 0 0 50;mark 0 1 50;mark 1 0 30;mark 1 1 70;"
            + "mark 2 0 70;mark 2 1 0;mark 2 2 30;mark 3 0 40;mark 3 1 20;mark 3 2 40;");
        order("tie none", x, 0, 1, 2, 3);
        x.tie(1);
        order("tie best", x, 1, 2, 0, 3);
        x.tie(2);
        order("tie wins", x, 1, 2, 3, 0);
        x.sets(0, 1, 70);
        x.sets(0, 0, 30);
        CHECK.due("as many are no hindrance", 1, x.of(0, 6));
        CHECK.due("for the other one either", 1, x.of(1, 6));
        order("tie wins, shared", x, 0, 1, 2, 3);
        x.sets(3, 0, 41);
        order("the total comes first", x, 3, 0, 1, 2);
        for (int tie = 0; tie < 3; tie++) {
            TenTrials like = Check.told(FIELD + "athlete;".repeat(8));
            like.tie(tie);
            order("all alike, tie " + tie, like, 0, 1, 2, 3, 4, 5, 6, 7);
        }
        // The last point, in TOTAL, in best, in wins.
        TenTrials y = Check.told(FIELD.repeat(2) + "athlete;athlete;mark 0 0 50;mark 0 1 50;mark 1 0 51;mark 1 1 49;");
        order("one more in best, tie none", y, 0, 1);
        y.tie(1);
        order("one more in best", y, 1, 0);
        y.sets(0, 0, 51);
        order("one more in total", y, 0, 1);
    }

    @Sentence(of = "II", says = "wins: who has the most POINTS (above 0) of all in more EVENTS (others may have as many);")
    private static void wins() {
        TenTrials x = Check.told("event field base 9 line 1 by 1;".repeat(2) + "athlete;athlete;athlete;mark 0 0 9;mark 1 0 5;mark 0 1 10;mark 1 1 10;mark 2 1 9;");
        CHECK.due("no win by 0 points, one by 1", 1, x.of(0, 6));
        CHECK.due("as many", 1, x.of(1, 6));
        CHECK.due("fewer", 0, x.of(2, 6));
        x.sets(2, 0, 10);
        x.tie(2);
        CHECK.due("one point is a win", 1, x.of(2, 6));
        order("one win each, one point each", x, 0, 1, 2);
        x.sets(2, 1, 10);
        x.sets(0, 0, 10);
        CHECK.due("two wins", 2, x.of(0, 6));
        CHECK.due("two wins, shared", 2, x.of(2, 6));
        order("two, two, one", x, 0, 2, 1);
        // Bonuses do not count for wins, best does not count for tie wins.
        TenTrials y = Check.told(FIELD.repeat(3) + "athlete;athlete;mark 0 0 90;mark 1 0 40;mark 1 1 30;mark 1 2 19;bonus 1 when done = 3;tie wins;");
        CHECK.due("like totals", y.of(0, 0), y.of(1, 0));
        order("more wins", y, 1, 0);
        y.tie(1);
        order("more best", y, 0, 1);
    }

    @Sentence(of = "20", says = {"The ATHLETE with the best MARK in an EVENT (of like ones the least number).", "NONE: nobody has one;"})
    private static void leaders() {
        TenTrials x = Check.told(TEXT);
        int[] leaders = {0, 1, 2, -2};
        for (int e = 0; e < leaders.length; e++) {
            CHECK.due("leads(" + e + ")", leaders[e], x.leads(e));
        }
        CHECK.due("leads(-1)", -2, x.leads(-1));
        TenTrials y = Check.told("event field base 0 line 9999 by 1;event run base 0 line 1 by 1;event run base 0 line 1 by 1;"
            + "athlete;athlete;athlete;mark 0 0 5;mark 1 0 6;mark 2 0 6;mark 1 1 9;mark 2 1 8;");
        CHECK.due("by marks, not by points", 1, y.leads(0));
        CHECK.due("marks that are worth nothing", 2, y.leads(1));
        CHECK.due("nobody has one", -1, y.leads(2));
        y.sets(0, 2, 99999);
        CHECK.due("the worst mark leads, if it is the only one", 0, y.leads(2));
        y.sets(2, 0, 7);
        CHECK.due("one better", 2, y.leads(0));
        CHECK.due("without athletes", -1, Check.told(FIELD).leads(0));
    }

    @Sentence(of = "42", says = {"The ATHLETE with the k-th best MARK (from 0) in an EVENT (of like ones the lesser number first).", "NONE: not so many have one;"})
    private static void kth() {
        TenTrials x = Check.told(TEXT);
        int[][] kths = {{0, 2, 1, -1, -1}, {1, 0, -1, -1, -1}, {2, 1, -1, -1, -1}};
        for (int e = 0; e < 3; e++) {
            for (int k = 0; k < kths[e].length; k++) {
                CHECK.due("kth(" + e + ", " + k + ")", kths[e][k], x.kth(e, k));
            }
        }
        CHECK.due("kth(0, 2147483647)", -1, x.kth(0, 2147483647));
        CHECK.due("kth(0, -1)", -2, x.kth(0, -1));
        CHECK.due("kth(3, 0)", -2, x.kth(3, 0));
        TenTrials y = Check.told("event run base 0 line 1 by 1;event field base 0 line 1 by 1;" + "athlete;".repeat(8));
        CHECK.due("of nobody", -1, y.kth(0, 0));
        CHECK.due("below 0 of nobody", -2, y.kth(0, -1));
        int[] marks = {5, 7, 5, 0, 99999, 7, 5, 6};
        for (int a = 0; a < 8; a++) {
            y.sets(a, 0, marks[a]);
            y.sets(a, 1, marks[a]);
        }
        int[] run = {3, 0, 2, 6, 7, 1, 5, 4, -1};
        int[] field = {4, 1, 5, 7, 0, 2, 6, 3, -1};
        for (int k = 0; k < 9; k++) {
            CHECK.due("kth of a run, " + k, run[k], y.kth(0, k));
            CHECK.due("kth of a field, " + k, field[k], y.kth(1, k));
        }
    }

    @Sentence(of = "21", says = "POINTS of all EVENTS (no bonus) of one who had in each the best MARK that some ATHLETE has there (none, if nobody has one).")
    private static void dream() {
        CHECK.due("dream", 209, Check.told(TEXT).dream());
        CHECK.due("dream of nobody", 0, Check.told("event run base 5 line 1 by 1;").dream());
        CHECK.due("dream without events", 0, Check.told("athlete;bonus 5 when 1=1;").dream());
        CHECK.due("dream of nothing", 0, Check.told("").dream());
        TenTrials x = Check.told("event run base 99 line 1 by 1;" + FIELD + FIELD + "athlete;athlete;mark 0 0 90;mark 1 0 89;mark 1 1 2000;bonus 5 when 1=1;");
        CHECK.due("one event that nobody has", 2010, x.dream());
    }

    @Sentence(of = "43", says = {"The EVENT in which an ATHLETE has the most POINTS fewer than whoever has the most there (of like ones the least number).", "NONE: in none fewer;"})
    private static void behind() {
        TenTrials t = Check.told(TEXT);
        int[] wants = {2, 2, 1, 1, -2};
        for (int a = 0; a < wants.length; a++) {
            CHECK.due("behind(" + a + ")", wants[a], t.behind(a));
        }
        CHECK.due("behind(-1)", -2, t.behind(-1));
        TenTrials x = Check.told(FIELD.repeat(3) + "athlete;athlete;mark 0 0 9;mark 0 1 9;mark 0 2 5;mark 1 0 9;mark 1 1 2;mark 1 2 12;");
        CHECK.due("in one alone", 2, x.behind(0));
        CHECK.due("in another one", 1, x.behind(1));
        x.sets(1, 0, 2);
        CHECK.due("of like ones the least", 0, x.behind(1));
        x.sets(0, 2, 12);
        CHECK.due("in none fewer", -1, x.behind(0));
        CHECK.due("nobody has any", -1, Check.told("event field base 9 line 1 by 1;athlete;mark 0 0 3;").behind(0));
        CHECK.due("one fewer is some", 0, Check.told(FIELD + "athlete;athlete;mark 0 0 3;mark 1 0 2;").behind(1));
        CHECK.due("better marks that are worth no more", -1, Check.told("event field base 0 table 0:9;athlete;athlete;mark 0 0 1;mark 1 0 2;").behind(0));
        CHECK.due("without a mark", 0, Check.told("event field base 0 table 0:9;athlete;athlete;mark 0 0 1;").behind(1));
        CHECK.due("without events", -1, Check.told("athlete;athlete;").behind(1));
        CHECK.due("alone", -1, Check.told(FIELD + "athlete;").behind(0));
    }

    @Sentence(of = "46", says = {"Of two ATHLETES those whose TOTALS are least apart (of like ones by the lesser number, then by the other one): 10 times the lesser number and the other one.", "NONE: there are fewer than two;"})
    private static void close() {
        CHECK.due("close", 12, Check.told(TEXT).close());
        TenTrials x = Check.told(FIELD + "athlete;");
        CHECK.due("close of one", -1, x.close());
        CHECK.due("close of nobody", -1, Check.told("").close());
        x.athlete();
        x.sets(1, 0, 500);
        CHECK.due("close of two", 1, x.close());
        x.athlete();
        x.athlete();
        x.sets(2, 0, 490);
        x.sets(3, 0, 480);
        CHECK.due("of like ones the lesser", 12, x.close());
        x.sets(3, 0, 510);
        CHECK.due("then the other one", 12, x.close());
        x.sets(3, 0, 509);
        CHECK.due("one less apart", 13, x.close());
        x.sets(0, 0, 509);
        CHECK.due("the same total", 3, x.close());
        TenTrials y = Check.told(FIELD + "athlete;athlete;athlete;mark 0 0 10;mark 1 0 15;mark 2 0 19;bonus 1 when total = 10;");
        CHECK.due("4 and 4 apart, with the bonus", 1, y.close());
        TenTrials eight = Check.told(FIELD + "athlete;".repeat(8));
        int[] marks = {0, 100, 300, 600, 1000, 1500, 1999, 1950};
        for (int a = 0; a < 8; a++) {
            eight.sets(a, 0, marks[a]);
        }
        CHECK.due("the last two of eight", 67, eight.close());
        CHECK.due("eight alike", 1, Check.told("athlete;".repeat(8)).close());
    }

    @Sentence(of = "47", says = "What the TOTALS of a set of ATHLETES (bits) come to.")
    private static void team() {
        TenTrials x = Check.told(TEXT);
        int[][] rows = {{0, 0}, {1, 130}, {2, 139}, {4, 138}, {8, 1}, {6, 277}, {15, 408}, {16, -2}, {17, -2}, {-1, -2}, {-2147483648, -2}};
        for (int[] row : rows) {
            CHECK.due("team(" + row[0] + ")", row[1], x.team(row[0]));
        }
        CHECK.due("team(0) of nobody", 0, Check.told("").team(0));
        CHECK.due("team(1) of nobody", -2, Check.told("").team(1));
        CHECK.due("team of eight", 8, Check.told("athlete;".repeat(8) + "bonus 1 when 1=1;").team(255));
        CHECK.due("team of the eighth", 1, Check.told("athlete;".repeat(8) + "bonus 1 when 1=1;").team(128));
        CHECK.due("team of a ninth", -2, Check.told("athlete;".repeat(8)).team(256));
    }

    @Sentence(of = "49", says = {"The TOTAL that an ATHLETE would have with the MARK (or none) of another one in an EVENT in place of its own.", "-2 (they may be one)."})
    private static void lent() {
        TenTrials x = Check.told(TEXT);
        CHECK.due("lent(0, 2, 2)", 208, x.lent(0, 2, 2));   // 60 60 69, the first two bonuses
        CHECK.due("lent(0, 1, 3)", 61, x.lent(0, 1, 3));    // none of another one: 60 alone, the last bonus
        CHECK.due("lent(3, 0, 1)", 41, x.lent(3, 0, 1));
        CHECK.due("lent(3, 0, 3)", 1, x.lent(3, 0, 3));
        CHECK.due("lent(1, 2, 1), one and the same", 139, x.lent(1, 2, 1));
        CHECK.stays("lent", 61, () -> Check.told(TEXT), y -> y.lent(0, 1, 3));
        CHECK.due("lent(4, 0, 0)", -2, x.lent(4, 0, 0));
        CHECK.due("lent(0, 3, 0)", -2, x.lent(0, 3, 0));
        CHECK.due("lent(0, 0, 4)", -2, x.lent(0, 0, 4));
        CHECK.due("lent(0, 0, -1)", -2, x.lent(0, 0, -1));
    }
}
