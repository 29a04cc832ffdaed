/** Promises 25 to 29, 44 and 45: training, gains, what an hour pays, the best spread of hours. */
public final class TrainingTest {
    private static final Check CHECK = new Check();
    // More POINTS for hours 0 .. 5: event 0: 0 2 5 6 8 10; event 1: 0 6 10 14 16 20 (then 20); event 2: none.
    private static final TenTrials X = Check.told("event run base 200 line 1 by 1;event field base 0 line 2 by 1;"
        + "event field base 0 table 100:50;athlete;athlete;mark 0 0 150;mark 0 1 10;"
        + "gain 0 0 30 in 10;gain 0 1 20 in 5;gain 0 2 99 in 9;");

    public static void main(String[] args) {
        trained();
        gains();
        pays();
        hour();
        spread();
        hours();
        squad();
        CHECK.end("TrainingTest");
    }

    private static void trained() {
        int[][] rows = {{0, 0, 0, 150}, {0, 0, 1, 148}, {0, 0, 5, 140}, {0, 0, 10, 135}, {0, 0, 999, 121},
            {0, 1, 1, 13}, {0, 1, 5, 20}, {0, 1, 999, 29}, {0, 2, 3, -1}, {1, 0, 3, -1},
            {0, 0, -1, -2}, {0, 0, 1000, -2}, {2, 0, 0, -2}, {-1, 0, 0, -2}, {0, 3, 0, -2}, {0, -1, 0, -2}, {1, 0, 1000, -2}};
        for (int[] row : rows) {
            CHECK.due("trained(" + row[0] + ", " + row[1] + ", " + row[2] + ")", row[3], X.trained(row[0], row[1], row[2]));
        }
        CHECK.due("the mark stays", 150, X.mark(0, 0));
        TenTrials x = Check.told("event run base 200 line 1 by 1;event field base 0 line 2 by 1;athlete;athlete;"
            + "mark 0 0 5;mark 0 1 99990;gain 0 0 99999 in 1;gain 0 1 99999 in 1;mark 1 0 77;");
        CHECK.due("no better than 0", 0, x.trained(0, 0, 1));
        CHECK.due("no better than 99999", 99999, x.trained(0, 1, 1));
        CHECK.due("without a gain", 77, x.trained(1, 0, 999));
    }

    private static void gains() {
        int[][] rows = {{0, 0, 0, 30}, {0, 0, 1, 10}, {0, 1, 0, 20}, {0, 1, 1, 5}, {0, 2, 0, 99}, {0, 2, 1, 9},
            {1, 0, 0, -1}, {1, 0, 1, -1}, {1, 0, 2, -2}, {0, 0, 2, -2}, {0, 0, -1, -2}, {2, 0, 0, -2}, {0, 3, 0, -2}};
        for (int[] row : rows) {
            CHECK.due("gains(" + row[0] + ", " + row[1] + ", " + row[2] + ")", row[3], X.gains(row[0], row[1], row[2]));
        }
        TenTrials x = Check.told("event run base 2 line 1 by 1;athlete;gain 0 0 5 in 6;gain 0 0 0 in 9;");
        CHECK.due("of two the last counts", 0, x.gains(0, 0, 0));
        CHECK.due("its hours", 9, x.gains(0, 0, 1));
    }

    private static void pays() {
        CHECK.due("pays(0, 1)", 1, X.pays(0, 1));
        CHECK.due("pays(0, 999)", 1, X.pays(0, 999));
        CHECK.due("pays(1, 5)", -1, X.pays(1, 5));
        CHECK.due("pays(0, 0)", -2, X.pays(0, 0));
        CHECK.due("pays(0, 1000)", -2, X.pays(0, 1000));
        CHECK.due("pays(2, 1)", -2, X.pays(2, 1));
        CHECK.due("pays(-1, 1)", -2, X.pays(-1, 1));
        TenTrials x = Check.told("event field base 0 line 1 by 1;event field base 0 line 1 by 1;event field base 0 line 1 by 1;athlete;"
            + "mark 0 0 5;mark 0 1 5;mark 0 2 5;gain 0 1 10 in 1;gain 0 2 10 in 1;gain 0 0 10 in 20;");
        CHECK.due("of like ones the least", 1, x.pays(0, 1));
        x.gain(0, 1, 1, 1);
        x.gain(0, 2, 1, 1);
        CHECK.due("in none any", -1, x.pays(0, 1));
        CHECK.due("later one", 0, x.pays(0, 20));
        CHECK.due("one point more is some", 0, x.pays(0, 3));
    }

    private static void hour() {
        int[][] rows = {{0, 0, 1, 2}, {0, 0, 2, 3}, {0, 0, 3, 1}, {0, 1, 1, 6}, {0, 1, 2, 4}, {0, 1, 6, 0}, {0, 2, 1, 0},
            {1, 0, 1, 0}, {0, 0, 0, -2}, {0, 0, 1000, -2}, {0, 0, 999, 0}, {2, 0, 1, -2}, {-1, 0, 1, -2}, {0, 3, 1, -2}, {0, -1, 1, -2}};
        for (int[] row : rows) {
            CHECK.due("hour(" + row[0] + ", " + row[1] + ", " + row[2] + ")", row[3], X.hour(row[0], row[1], row[2]));
        }
    }

    private static void spread() {
        // By n: POINTS, then the hours for each EVENT.
        int[][] rows = {{70, 0, 0, 0}, {76, 0, 1, 0}, {80, 0, 2, 0}, {84, 0, 3, 0}, {86, 0, 4, 0}, {90, 0, 5, 0}, {92, 1, 5, 0}, {95, 2, 5, 0}};
        for (int n = 0; n < rows.length; n++) {
            for (int e = -1; e < 3; e++) {
                CHECK.due("spread(0, " + n + ", " + e + ")", rows[n][e + 1], X.spread(0, n, e));
            }
        }
        CHECK.due("nothing to win", 0, X.spread(1, 7, -1));
        CHECK.due("the fewest for the first", 0, X.spread(1, 7, 0));
        CHECK.due("and for the second", 0, X.spread(1, 7, 1));
        CHECK.due("all hours are spread", 7, X.spread(1, 7, 2));
        CHECK.due("60 hours", 60, X.spread(1, 60, 2));
        CHECK.due("61 hours", -2, X.spread(0, 61, -1));
        CHECK.due("-1 hours", -2, X.spread(0, -1, -1));
        CHECK.due("spread(0, 5, 3)", -2, X.spread(0, 5, 3));
        CHECK.due("spread(0, 5, -2)", -2, X.spread(0, 5, -2));
        CHECK.due("spread(2, 5, 0)", -2, X.spread(2, 5, 0));
        TenTrials none = Check.told("athlete;");
        CHECK.due("without events", 0, none.spread(0, 60, -1));
        CHECK.due("no such event", -2, none.spread(0, 60, 0));
        // A threshold of three hours that pays more than an hour at a time.
        TenTrials x = Check.told("event field base 0 line 1 by 1;event field base 0 table 13:50;athlete;"
            + "mark 0 0 0;mark 0 1 10;gain 0 0 10 in 9;gain 0 1 7 in 3;");
        CHECK.due("two hours", 1, x.spread(0, 2, -1));
        CHECK.due("two hours in the first", 1, x.spread(0, 2, 0));
        CHECK.due("three hours", 50, x.spread(0, 3, -1));
        CHECK.due("three hours in the second", 3, x.spread(0, 3, 1));
    }

    private static void hours() {
        int[][] rows = {{0, 0}, {70, 0}, {71, 1}, {76, 1}, {77, 2}, {90, 5}, {91, 6}, {95, 7}, {99999, -1}, {100000, -2}, {-1, -2}};
        for (int[] row : rows) {
            CHECK.due("hours(0, " + row[0] + ")", row[1], X.hours(0, row[0]));
        }
        CHECK.due("hours(1, 0)", 0, X.hours(1, 0));
        CHECK.due("hours(1, 1)", -1, X.hours(1, 1));
        CHECK.due("hours(2, 0)", -2, X.hours(2, 0));
        TenTrials x = Check.told("event field base 0 line 1 by 1;athlete;mark 0 0 0;gain 0 0 120 in 60;bonus 500 when 1=1;");
        CHECK.due("60 hours at most", 60, x.hours(0, 60));
        CHECK.due("61 hours would do", -1, x.hours(0, 61));
    }

    private static void squad() {
        // More POINTS by hours: athlete 0: 0 2 5 6 8 10; athlete 1: 0 5 10 13 17 20 22 24; athlete 2: none.
        TenTrials x = Check.told("event run base 200 line 1 by 1;athlete;athlete;athlete;mark 0 0 150;gain 0 0 30 in 10;"
            + "mark 1 0 150;gain 1 0 60 in 10;bonus 9 when 1=1;");
        int[][] rows = {{100, 0, 0, 0}, {105, 0, 1, 0}, {110, 0, 2, 0}, {113, 0, 3, 0}, {117, 0, 4, 0}, {120, 0, 5, 0}, {122, 0, 6, 0}, {125, 2, 5, 0}};
        for (int n = 0; n < rows.length; n++) {
            for (int a = -1; a < 3; a++) {
                CHECK.due("squad(" + n + ", " + a + ")", rows[n][a + 1], x.squad(n, a));
            }
        }
        CHECK.due("squad(61, -1)", -2, x.squad(61, -1));
        CHECK.due("squad(-1, -1)", -2, x.squad(-1, -1));
        CHECK.due("squad(5, 3)", -2, x.squad(5, 3));
        CHECK.due("squad(5, -2)", -2, x.squad(5, -2));
        CHECK.due("60 hours are all spread", 60, x.squad(60, 0) + x.squad(60, 1) + x.squad(60, 2));
        TenTrials none = Check.told("");
        CHECK.due("without athletes", 0, none.squad(60, -1));
        CHECK.due("no such athlete", -2, none.squad(60, 0));
        CHECK.due("the first of two without marks", 0, X.squad(7, 0) - 7 + X.squad(7, 1));
        TenTrials still = Check.told("event run base 200 line 1 by 1;athlete;athlete;");
        CHECK.due("nothing to win, the first", 0, still.squad(9, 0));
        CHECK.due("nothing to win, the last", 9, still.squad(9, 1));
    }
}
