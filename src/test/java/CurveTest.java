/** Promises 7 to 12, 48 and 50: events, their curves, what marks are worth and which mark is worth so much. */
public final class CurveTest {
    private static final Check CHECK = new Check();
    // 0 a line that falls with time, 1 a square, 2 a root, 3 a table of a run, 4 a table of a field, 5 a steep line.
    private static final TenTrials X = Check.told("event run base 1000 line 3 by 7 spread 999;"
        + "event field base 200 square 5 by 1000 spread 1;"
        + "event field base 50 root 7 by 3;"
        + "event run base 300 table 10:100,13:110,20:110,100:1500;"
        + "event field base 0 table 0:5;"
        + "event field base 99999 line 9999 by 1;"
        + "athlete;");

    public static void main(String[] args) {
        event();
        pointsOfFormulas();
        pointsOfTables();
        worst();
        top();
        same();
        step();
        kinds();
        even();
        CHECK.end("CurveTest");
    }

    private static void row(int e, int... want) {
        for (int what = 0; what < want.length; what++) {
            CHECK.due("event(" + e + ", " + what + ")", want[what], X.event(e, what));
        }
    }

    private static void event() {
        row(0, 0, 1000, 0, 3, 7, 999, -2);
        row(1, 1, 200, 1, 5, 1000, 1, -2);
        row(2, 1, 50, 2, 7, 3, 0, -2);
        row(3, 0, 300, 3, 4, -1, 0, -2);
        row(4, 1, 0, 3, 1, -1, 0, -2);
        row(6, -2, -2, -2, -2, -2, -2);
        CHECK.due("event(0, -1)", -2, X.event(0, -1));
        CHECK.due("event(-1, 0)", -2, X.event(-1, 0));
        TenTrials x = Check.told("event run base 1 table 1:1,2:2,3:3;");
        Check.tell(x, "athlete;");
        Check.tell(x, "event run base 1 line 8 by 9;");
        CHECK.due("nothing of an older text stays", 8, x.event(0, 3));
        CHECK.due("nothing of an older text stays", 9, x.event(0, 4));
    }

    private static void worth(int e, int mark, int want) {
        CHECK.due("points(" + e + ", " + mark + ")", want, X.points(e, mark));
    }

    private static void pointsOfFormulas() {
        worth(0, 1000, 0);
        worth(0, 1001, 0);
        worth(0, 99999, 0);
        worth(0, 998, 0);       // 6 / 7
        worth(0, 997, 1);       // 9 / 7
        worth(0, 993, 3);       // 21 / 7
        worth(0, 0, 428);       // 3000 / 7
        worth(1, 199, 0);
        worth(1, 200, 0);
        worth(1, 214, 0);       // 5 14 14 = 980
        worth(1, 215, 1);       // 5 15 15 = 1125
        worth(1, 300, 50);
        worth(1, 832, 1997);    // 5 632 632 = 1997120
        worth(1, 833, 2000);    // 5 633 633 = 2003445
        worth(1, 99999, 2000);
        worth(2, 50, 0);
        worth(2, 49, 0);
        worth(2, 51, 23);       // r 10, 70 / 3
        worth(2, 52, 32);       // r 14 (196), 98 / 3
        worth(2, 53, 39);       // r 17 (289), 119 / 3
        worth(2, 99999, 2000);  // r 3161, 22127 / 3 = 7375
        worth(5, 99999, 0);
        worth(5, 0, 0);
        CHECK.due("points(0, -1)", -2, X.points(0, -1));
        CHECK.due("points(0, 100000)", -2, X.points(0, 100000));
        CHECK.due("points(6, 0)", -2, X.points(6, 0));
        CHECK.due("points(-1, 0)", -2, X.points(-1, 0));
        TenTrials wide = Check.told("event field base 0 square 9999 by 99999;event field base 0 line 9999 by 99999;"
            + "event run base 99999 root 9999 by 99999;");
        CHECK.due("a long square", 999, wide.points(0, 100));       // 99990000 / 99999
        CHECK.due("the longest square", 2000, wide.points(0, 99999));
        CHECK.due("a long line", 2000, wide.points(1, 99999));      // 9999 before the bound
        CHECK.due("a line below", 1999, wide.points(1, 20000));     // 199980000 / 99999
        CHECK.due("the longest root", 316, wide.points(2, 0));      // r 3162, 31616838 / 99999
    }

    private static void pointsOfTables() {
        worth(3, 301, 0);
        worth(3, 300, 0);
        worth(3, 291, 0);       // d 9: below the first
        worth(3, 290, 100);
        worth(3, 289, 103);     // 100 and 1 10 / 3
        worth(3, 288, 106);
        worth(3, 287, 110);
        worth(3, 283, 110);
        worth(3, 280, 110);
        worth(3, 279, 127);     // 110 and 1 1390 / 80
        worth(3, 201, 1482);    // 110 and 79 1390 / 80 = 1372
        worth(3, 200, 1500);
        worth(3, 199, 1500);
        worth(3, 0, 1500);
        worth(4, 0, 5);
        worth(4, 99999, 5);
        TenTrials x = Check.told("event field base 10 table 0:7,99999:2000;");
        CHECK.due("a way below 0", 0, x.points(0, 9));
        CHECK.due("a way of 0", 7, x.points(0, 10));
        CHECK.due("at the far end", 1999, x.points(0, 99999));      // 7 and 99989 1993 / 99999 = 1992.8
    }

    private static void worst() {
        int[][] rows = {{0, 0, 99999}, {0, 1, 997}, {0, 3, 993}, {0, 428, 1}, {0, 429, -1}, {0, 2000, -1},
            {1, 0, 0}, {1, 1, 215}, {1, 50, 300}, {1, 1997, 832}, {1, 1998, 833}, {1, 2000, 833},
            {2, 1, 51}, {2, 23, 51}, {2, 24, 52},
            {3, 0, 99999}, {3, 1, 290}, {3, 100, 290}, {3, 101, 289}, {3, 110, 287}, {3, 111, 279}, {3, 1500, 200},
            {3, 1501, -1}, {4, 0, 0}, {4, 5, 0}, {4, 6, -1}, {5, 0, 0}, {5, 1, -1},
            {0, -1, -2}, {0, 2001, -2}, {6, 0, -2}, {-1, 0, -2}};
        for (int[] row : rows) {
            CHECK.due("worst(" + row[0] + ", " + row[1] + ")", row[2], X.worst(row[0], row[1]));
        }
    }

    private static void top() {
        int[] tops = {428, 2000, 2000, 1500, 5, 0, -2};
        for (int e = 0; e < tops.length; e++) {
            CHECK.due("top(" + e + ")", tops[e], X.top(e));
        }
        CHECK.due("top(-1)", -2, X.top(-1));
    }

    private static void same() {
        CHECK.due("same(1, 300, 0)", 883, X.same(1, 300, 0));       // 50: 3 117 / 7 = 50.1
        CHECK.due("same(0, 0, 3)", 261, X.same(0, 0, 3));           // 428: d 39 is 110 and 330, d 38 110 and 312
        CHECK.due("same(3, 0, 0)", -1, X.same(3, 0, 0));
        CHECK.due("same(0, 2000, 1)", 0, X.same(0, 2000, 1));
        CHECK.due("same(3, 283, 3)", 287, X.same(3, 283, 3));
        CHECK.due("same(0, -1, 1)", -2, X.same(0, -1, 1));
        CHECK.due("same(0, 100000, 1)", -2, X.same(0, 100000, 1));
        CHECK.due("same(6, 0, 0)", -2, X.same(6, 0, 0));
        CHECK.due("same(0, 0, 6)", -2, X.same(0, 0, 6));
        CHECK.due("same(0, 0, -1)", -2, X.same(0, 0, -1));
    }

    private static void step() {
        int[][] rows = {{0, 1000, 3}, {0, 998, 1}, {0, 997, 2}, {0, 99999, 99002}, {0, 1, -1}, {0, 0, -1},
            {1, 0, 215}, {1, 214, 1}, {1, 832, 1}, {1, 833, -1}, {2, 50, 1},
            {3, 300, 10}, {3, 287, 8}, {3, 200, -1}, {4, 0, -1}, {5, 0, -1},
            {0, -1, -2}, {0, 100000, -2}, {6, 5, -2}, {-1, 5, -2}};
        for (int[] row : rows) {
            CHECK.due("step(" + row[0] + ", " + row[1] + ")", row[2], X.step(row[0], row[1]));
        }
    }

    private static void kinds() {
        CHECK.due("one mark", 1, X.kinds(0, 993, 993));
        CHECK.due("1, 0", 2, X.kinds(0, 997, 998));
        CHECK.due("3, 2, 2, 1, 1, 0", 4, X.kinds(0, 993, 998));
        CHECK.due("all without points", 1, X.kinds(0, 1000, 3000));
        CHECK.due("at most 2000 more", -2, X.kinds(0, 1000, 3001));
        CHECK.due("no less", -2, X.kinds(0, 1000, 999));
        CHECK.due("110, 106, 103, 100, 0", 5, X.kinds(3, 280, 300));
        CHECK.due("the last mark", 1, X.kinds(1, 98000, 99999));
        CHECK.due("above the last mark", -2, X.kinds(1, 99999, 100000));
        CHECK.due("below the first", -2, X.kinds(1, -1, 5));
        CHECK.due("far apart", -2, X.kinds(1, -2147483648, 2147483647));
        CHECK.due("no event", -2, X.kinds(6, 0, 5));
    }

    private static void even() {
        // The most are 428, 2000, 2000, 1500, 5, 0.
        int[][] rows = {{0, 0}, {1, 1}, {5, 1}, {6, 2}, {25, 5}, {26, 6}, {1717, 428}, {1718, 429}, {5933, 2000},
            {5934, -1}, {99999, -1}, {100000, -2}, {-1, -2}};
        for (int[] row : rows) {
            CHECK.due("even(" + row[0] + ")", row[1], X.even(row[0]));
        }
        TenTrials x = Check.told("athlete;");
        CHECK.due("even(0) without events", 0, x.even(0));
        CHECK.due("even(1) without events", -1, x.even(1));
    }
}
