/** Promises 13 to 21, 42, 43, 46, 47 and 49: marks, totals with bonuses, ranks, who leads, who is behind. */
public final class ScoreTest {
    private static final Check CHECK = new Check();
    // POINTS: 60 60 - | 40 80 9 | 60 - 69 | - - -; TOTALS 130, 139, 138, 1; wins 1, 1, 2, 0.
    private static final String TEXT = "event run base 100 line 1 by 1;event field base 0 line 2 by 1;"
        + "event field base 0 line 1 by 10;athlete;athlete;athlete;athlete;"
        + "mark 0 0 40;mark 0 1 30;mark 1 0 60;mark 1 1 40;mark 1 2 95;mark 2 0 99;mark 2 0 40;mark 2 2 690;"
        + "bonus 10 when done > 2;bonus 9 when points 0 = 60 and not done < 2;"
        + "bonus 500 when total > 1000 or least > best;bonus 1 when best - least < 1;";
    private static final TenTrials X = Check.told(TEXT);

    public static void main(String[] args) {
        marks();
        of();
        tests();
        bonuses();
        ranks();
        ties();
        leaders();
        dream();
        behind();
        close();
        team();
        lent();
        CHECK.end("ScoreTest");
    }

    private static void marks() {
        int[][] marks = {{40, 30, -1, -2}, {60, 40, 95, -2}, {40, -1, 690, -2}, {-1, -1, -1, -2}, {-2, -2, -2, -2}};
        int[][] worths = {{60, 60, 0, -2}, {40, 80, 9, -2}, {60, 0, 69, -2}, {0, 0, 0, -2}, {-2, -2, -2, -2}};
        for (int a = 0; a < 5; a++) {
            for (int e = 0; e < 4; e++) {
                CHECK.due("mark(" + a + ", " + e + ")", marks[a][e], X.mark(a, e));
                CHECK.due("worth(" + a + ", " + e + ")", worths[a][e], X.worth(a, e));
            }
        }
        CHECK.due("mark(-1, 0)", -2, X.mark(-1, 0));
        CHECK.due("mark(0, -1)", -2, X.mark(0, -1));
        CHECK.due("worth(-1, 0)", -2, X.worth(-1, 0));
        CHECK.due("worth(0, -1)", -2, X.worth(0, -1));
    }

    private static void of() {
        int[][] rows = {{130, 120, 10, 2, 60, 60, 1, -2}, {139, 129, 10, 3, 80, 9, 1, -2},
            {138, 129, 9, 2, 69, 60, 2, -2}, {1, 0, 1, 0, 0, 0, 0, -2}};
        for (int a = 0; a < rows.length; a++) {
            for (int what = 0; what < rows[a].length; what++) {
                CHECK.due("of(" + a + ", " + what + ")", rows[a][what], X.of(a, what));
            }
        }
        CHECK.due("of(0, -1)", -2, X.of(0, -1));
        CHECK.due("of(4, 0)", -2, X.of(4, 0));
        CHECK.due("of(-1, 0)", -2, X.of(-1, 0));
        TenTrials zero = Check.told("event field base 9 line 1 by 1;athlete;athlete;mark 0 0 5;");
        CHECK.due("done with a mark that is worth nothing", 1, zero.of(0, 3));
        CHECK.due("no win without points", 0, zero.of(0, 6));
    }

    private static void tests() {
        int[][] holds = {{0, 1, 0, 0}, {1, 0, 1, 0}, {0, 0, 0, 0}, {1, 0, 0, 1}};
        for (int k = 0; k < 4; k++) {
            for (int a = 0; a < 4; a++) {
                CHECK.due("holds(" + k + ", " + a + ")", holds[k][a], X.holds(k, a));
            }
        }
        CHECK.due("holds(4, 0)", -2, X.holds(4, 0));
        CHECK.due("holds(-1, 0)", -2, X.holds(-1, 0));
        CHECK.due("holds(0, 4)", -2, X.holds(0, 4));
        CHECK.due("holds(0, -1)", -2, X.holds(0, -1));
        test(1, "1=1 or 1=1 and 1=2");
        test(0, "[1=1 or 1=1] and 1=2");
        test(1, "1=2 and 1=1 or 1=1");
        test(0, "not 1=1 or 1=2");
        test(1, "not 1=2 and 1=1");
        test(0, "not [1=2 or 1=1]");
        test(1, "not not 1=1");
        test(1, "10-4-3=3");
        test(1, "10-(4-3)=9");
        test(1, "1-99999<0");
        test(0, "1<1 or 1>1");
        test(1, "1<2 and 2>1");
        test(1, "points 0=7");
        test(1, "points 1=0");
        test(1, "total=10 and done=2 and best=7 and least=3");
        test(1, "total + best - (least + done) - points 2 = 9");
        test(1, "(((((99999))))) + 99999 + 99999 = 99999 + 99999 + 99999");
        test(1, "[[[[[1=2 or 1=2 and 1=1 or 1+2-(1-2)=1+1+1+1 and 1=1]]]]]");
    }

    /** A TEST for one with 7 and 3 POINTS of three EVENTS. */
    private static void test(int want, String test) {
        TenTrials x = Check.told("event field base 0 line 1 by 1;event field base 0 line 1 by 1;event field base 0 line 1 by 1;"
            + "athlete;mark 0 0 7;mark 0 2 3;bonus 500 when " + test + ";");
        CHECK.due(test, want, x.holds(0, 0));
        CHECK.due("the total with " + test, 10 + 500 * want, x.of(0, 0));
    }

    private static void bonuses() {
        int[] amounts = {10, 9, 500, 1, -2};
        for (int k = 0; k < amounts.length; k++) {
            CHECK.due("bonus(" + k + ")", amounts[k], X.bonus(k));
        }
        CHECK.due("bonus(-1)", -2, X.bonus(-1));
        TenTrials x = Check.told("athlete;bonus 500 when 1=1;bonus 1 when total > 0;");
        CHECK.due("a bonus is no part of total", 500, x.of(0, 0));
    }

    private static void order(String name, TenTrials x, int... order) {
        for (int k = 0; k < order.length; k++) {
            CHECK.due(name + " place(" + k + ")", order[k], x.place(k));
            CHECK.due(name + " rank(" + order[k] + ")", k, x.rank(order[k]));
        }
        CHECK.due(name + " place behind the last", -1, x.place(order.length));
    }

    private static void ranks() {
        order("ranks", X, 1, 2, 0, 3);
        CHECK.due("place(-1)", -2, X.place(-1));
        CHECK.due("place(2147483647)", -1, X.place(2147483647));
        CHECK.due("rank(4)", -2, X.rank(4));
        CHECK.due("rank(-1)", -2, X.rank(-1));
        TenTrials none = Check.told("");
        CHECK.due("place(0) of nobody", -1, none.place(0));
        CHECK.due("rank(0) of nobody", -2, none.rank(0));
    }

    private static void ties() {
        TenTrials x = Check.told("event field base 0 line 1 by 1;event field base 0 line 1 by 1;event field base 0 line 1 by 1;"
            + "athlete;athlete;athlete;athlete;mark 0 0 50;mark 0 1 50;mark 1 0 30;mark 1 1 70;"
            + "mark 2 0 70;mark 2 1 0;mark 2 2 30;mark 3 0 40;mark 3 1 20;mark 3 2 40;");
        order("tie none", x, 0, 1, 2, 3);
        x.tie(1);
        order("tie best", x, 1, 2, 0, 3);
        x.tie(2);
        order("tie wins", x, 1, 2, 3, 0);
        x.sets(0, 1, 70);
        x.sets(0, 0, 30);
        CHECK.due("as many are no hindrance", 1, x.of(0, 6));
        CHECK.due("for the other one either", 1, x.of(1, 6));
        order("tie wins, shared", x, 0, 1, 2, 3);
        x.sets(3, 0, 41);
        order("the total comes first", x, 3, 0, 1, 2);
    }

    private static void leaders() {
        int[][] kths = {{0, 2, 1, -1, -1}, {1, 0, -1, -1, -1}, {2, 1, -1, -1, -1}};
        for (int e = 0; e < 3; e++) {
            CHECK.due("leads(" + e + ")", kths[e][0], X.leads(e));
            for (int k = 0; k < kths[e].length; k++) {
                CHECK.due("kth(" + e + ", " + k + ")", kths[e][k], X.kth(e, k));
            }
        }
        CHECK.due("leads(3)", -2, X.leads(3));
        CHECK.due("leads(-1)", -2, X.leads(-1));
        CHECK.due("kth(3, 0)", -2, X.kth(3, 0));
        CHECK.due("kth(-1, 0)", -2, X.kth(-1, 0));
        CHECK.due("kth(0, -1)", -2, X.kth(0, -1));
        TenTrials x = Check.told("event field base 0 line 9999 by 1;event run base 0 line 1 by 1;event run base 0 line 1 by 1;"
            + "athlete;athlete;athlete;mark 0 0 5;mark 1 0 6;mark 2 0 6;mark 1 1 9;mark 2 1 8;");
        CHECK.due("by marks, not by points", 1, x.leads(0));
        CHECK.due("marks that are worth nothing", 2, x.leads(1));
        CHECK.due("nobody has one", -1, x.leads(2));
        CHECK.due("kth of nobody", -1, x.kth(2, 0));
        CHECK.due("like ones", 2, x.kth(0, 1));
        CHECK.due("the worst", 0, x.kth(0, 2));
    }

    private static void dream() {
        CHECK.due("dream", 209, X.dream());
        CHECK.due("dream of nobody", 0, Check.told("event run base 5 line 1 by 1;").dream());
        CHECK.due("dream without events", 0, Check.told("athlete;bonus 5 when 1=1;").dream());
    }

    private static void behind() {
        int[] wants = {2, 2, 1, 1, -2};
        for (int a = 0; a < wants.length; a++) {
            CHECK.due("behind(" + a + ")", wants[a], X.behind(a));
        }
        CHECK.due("behind(-1)", -2, X.behind(-1));
        TenTrials x = Check.told("event field base 0 line 1 by 1;event field base 0 line 1 by 1;event field base 0 line 1 by 1;"
            + "athlete;athlete;mark 0 0 9;mark 0 1 9;mark 0 2 5;mark 1 0 9;mark 1 1 2;mark 1 2 12;");
        CHECK.due("in one alone", 2, x.behind(0));
        CHECK.due("in another one", 1, x.behind(1));
        x.sets(1, 0, 2);
        CHECK.due("of like ones the least", 0, x.behind(1));
        x.sets(0, 2, 12);
        CHECK.due("in none fewer", -1, x.behind(0));
        CHECK.due("nobody has any", -1, Check.told("event field base 9 line 1 by 1;athlete;mark 0 0 3;").behind(0));
        CHECK.due("one fewer is some", 0, Check.told("event field base 0 line 1 by 1;athlete;athlete;mark 0 0 3;mark 1 0 2;").behind(1));
    }

    private static void close() {
        CHECK.due("close", 12, X.close());
        TenTrials x = Check.told("event field base 0 line 1 by 1;athlete;");
        CHECK.due("close of one", -1, x.close());
        CHECK.due("close of nobody", -1, Check.told("").close());
        x.athlete();
        x.sets(1, 0, 500);
        CHECK.due("close of two", 1, x.close());
        x.athlete();
        x.athlete();
        x.sets(2, 0, 490);
        x.sets(3, 0, 480);
        CHECK.due("of like ones the lesser", 12, x.close());
        x.sets(3, 0, 510);
        CHECK.due("then the other one", 12, x.close());
        x.sets(0, 0, 510);
        CHECK.due("the same total", 3, x.close());
        TenTrials y = Check.told("event field base 0 line 1 by 1;athlete;athlete;athlete;mark 0 0 10;mark 1 0 15;mark 2 0 19;"
            + "bonus 1 when total = 10;");
        CHECK.due("4 and 4 apart, with the bonus", 1, y.close());
    }

    private static void team() {
        CHECK.due("team(0)", 0, X.team(0));
        CHECK.due("team(1)", 130, X.team(1));
        CHECK.due("team(6)", 277, X.team(6));
        CHECK.due("team(15)", 408, X.team(15));
        CHECK.due("team(16)", -2, X.team(16));
        CHECK.due("team(17)", -2, X.team(17));
        CHECK.due("team(-1)", -2, X.team(-1));
        CHECK.due("team(-2147483648)", -2, X.team(-2147483648));
        CHECK.due("team(0) of nobody", 0, Check.told("").team(0));
        CHECK.due("team(1) of nobody", -2, Check.told("").team(1));
        CHECK.due("team of eight", 8, Check.told("athlete;".repeat(8) + "bonus 1 when 1=1;").team(255));
        CHECK.due("team of a ninth", -2, Check.told("athlete;".repeat(8)).team(256));
    }

    private static void lent() {
        CHECK.due("lent(0, 2, 2)", 208, X.lent(0, 2, 2));   // 60 60 69, the first two bonuses
        CHECK.due("lent(0, 1, 3)", 61, X.lent(0, 1, 3));    // 60 alone, the last bonus
        CHECK.due("lent(3, 0, 1)", 41, X.lent(3, 0, 1));
        CHECK.due("lent(1, 2, 1)", 139, X.lent(1, 2, 1));
        CHECK.due("nothing changed", 130, X.of(0, 0));
        CHECK.due("lent(4, 0, 0)", -2, X.lent(4, 0, 0));
        CHECK.due("lent(0, 3, 0)", -2, X.lent(0, 3, 0));
        CHECK.due("lent(0, 0, 4)", -2, X.lent(0, 0, 4));
        CHECK.due("lent(0, 0, -1)", -2, X.lent(0, 0, -1));
    }
}
