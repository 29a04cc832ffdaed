/** Promises 7 to 12, 48 and 50, with the terms' parts II and III: events, what marks are worth, which mark is worth so much. */
public final class CurveTest {
    private static final Check CHECK = new Check();
    // 0 a line that falls with time, 1 a square, 2 a root, 3 a table of a run, 4 a table of a field, 5 a steep line.
    private static final String TEXT = "event run base 1000 line 3 by 7 spread 999;"
        + "event field base 200 square 5 by 1000 spread 1;"
        + "event field base 50 root 7 by 3;"
        + "event run base 300 table 10:100,13:110,20:110,100:1500;"
        + "event field base 0 table 0:5;"
        + "event field base 99999 line 9999 by 1;"
        + "athlete;";

    public static void main(String[] args) throws IllegalAccessException {
        CHECK.run(CurveTest.class);
    }

    private static void worth(int e, int mark, int want) {
        CHECK.due("points(" + e + ", " + mark + ")", want, Check.told(TEXT).points(e, mark));
    }

    private static TenTrials one(String event) {
        return Check.told("event " + event + ";athlete;");
    }

    @Sentence(of = "7", says = "Of an EVENT, what 0: 0 run, 1 field, 1: base, 2: CURVE (0 line, 1 square, 2 root, 3 table), 3, 4: its first N, its second one (of a table how many twos; NONE), 5: spread.")
    private static void event() {
        int[][] rows = {{0, 1000, 0, 3, 7, 999, -2}, {1, 200, 1, 5, 1000, 1, -2}, {1, 50, 2, 7, 3, 0, -2}, {0, 300, 3, 4, -1, 0, -2},
            {1, 0, 3, 1, -1, 0, -2}, {1, 99999, 0, 9999, 1, 0, -2}, {-2, -2, -2, -2, -2, -2, -2}};
        TenTrials x = Check.told(TEXT);
        for (int e = 0; e < rows.length; e++) {
            for (int what = 0; what < rows[e].length; what++) {
                CHECK.due("event(" + e + ", " + what + ")", rows[e][what], x.event(e, what));
            }
        }
        TenTrials y = Check.told("event run base 1 table 1:1,2:2,3:3;");
        Check.tell(y, "athlete;");
        Check.tell(y, "event run base 1 line 8 by 9;");
        CHECK.due("nothing of an older text stays", 8, y.event(0, 3));
        CHECK.due("nothing of an older text stays", 9, y.event(0, 4));
    }

    @Sentence(of = "8", says = "POINTS of a MARK in an EVENT.")
    private static void points() {
        TenTrials x = Check.told(TEXT);
        int[] least = {428, 0, 0, 1500, 5, 0};
        int[] greatest = {0, 2000, 2000, 0, 5, 0};
        for (int e = 0; e < 6; e++) {
            CHECK.due("points(" + e + ", 0)", least[e], x.points(e, 0));
            CHECK.due("points(" + e + ", 99999)", greatest[e], x.points(e, 99999));
            CHECK.due("points(" + e + ", -1)", -2, x.points(e, -1));
            CHECK.due("points(" + e + ", 100000)", -2, x.points(e, 100000));
        }
    }

    @Sentence(of = "II", says = "MARK 0 .. 99999 (run: less is better; field: more is better), or none.")
    private static void marks() {
        TenTrials x = Check.told("event run base 99999 line 1 by 1;event field base 0 line 1 by 1;athlete;athlete;");
        for (int e = 0; e < 2; e++) {
            CHECK.due("none at first", -1, x.mark(0, e));
            CHECK.due("the least", -1, x.sets(0, e, 0));
            CHECK.due("the greatest", 0, x.sets(0, e, 99999));
            CHECK.due("none again", 99999, x.sets(0, e, -1));
            CHECK.due("one above", -2, x.sets(0, e, 100000));
            CHECK.due("one below none", -2, x.sets(0, e, -2));
            x.sets(0, e, 500);
            x.sets(1, e, 501);
            CHECK.due("the better one of event " + e, e, x.leads(e));
            CHECK.due("the greatest has", e == 0 ? 0 : 2000, x.points(e, 99999));
            CHECK.due("the least has", e == 0 ? 2000 : 0, x.points(e, 0));
        }
    }

    @Sentence(of = "II", says = "WAY d of a MARK: of run the base less it, of field it less the base.")
    private static void ways() {
        TenTrials run = one("run base 700 line 1 by 1");
        TenTrials field = one("field base 700 line 1 by 1");
        for (int d = -3; d <= 3; d++) {
            CHECK.due("run, d " + d, Math.max(0, d), run.points(0, 700 - d));
            CHECK.due("field, d " + d, Math.max(0, d), field.points(0, 700 + d));
        }
        CHECK.due("the longest way of a run", 1999, one("run base 1999 line 1 by 1").points(0, 0));
        CHECK.due("the longest way of a field", 1999, one("field base 98000 line 1 by 1").points(0, 99999));
    }

    @Sentence(of = "II", says = "POINTS: 0 without a MARK, or if d is below 0;")
    private static void nothing() {
        TenTrials x = Check.told("event run base 9 table 0:70;event field base 9 table 0:70;athlete;");
        CHECK.due("a run without a mark", 0, x.worth(0, 0));
        CHECK.due("a field without a mark", 0, x.worth(0, 1));
        CHECK.due("a run, d 0", 70, x.points(0, 9));
        CHECK.due("a run, d -1", 0, x.points(0, 10));
        CHECK.due("a field, d 0", 70, x.points(1, 9));
        CHECK.due("a field, d -1", 0, x.points(1, 8));
        TenTrials y = Check.told("event run base 9 square 9999 by 1;event field base 9 square 9999 by 1;athlete;");
        CHECK.due("a square has no other side, run", 0, y.points(0, 10));
        CHECK.due("a square has no other side, field", 0, y.points(1, 8));
        CHECK.due("far below, run", 0, y.points(0, 99999));
        CHECK.due("far below, field", 0, y.points(1, 0));
    }

    @Sentence(of = "II", says = "else (downwards): line N by M: N d / M; square: N d d / M;")
    private static void linesAndSquares() {
        worth(0, 1000, 0);
        worth(0, 998, 0);       // 6 / 7
        worth(0, 997, 1);       // 9 / 7
        worth(0, 993, 3);       // 21 / 7
        worth(0, 0, 428);       // 3000 / 7
        worth(1, 200, 0);
        worth(1, 214, 0);       // 5 14 14 = 980
        worth(1, 215, 1);       // 5 15 15 = 1125
        worth(1, 300, 50);
        worth(1, 832, 1997);    // 5 632 632 = 1997120
        worth(5, 99999, 0);
        // Products beyond an int: no wrap-around.
        CHECK.due("a long square", 999, one("field base 0 square 9999 by 99999").points(0, 100));       // 99990000 / 99999
        CHECK.due("a line below 2000", 1999, one("field base 0 line 9999 by 99999").points(0, 20000));  // 199980000 / 99999
        CHECK.due("1 by 99999", 0, one("field base 0 line 1 by 99999").points(0, 99998));
        CHECK.due("1 by 99999 at the end", 1, one("field base 0 line 1 by 99999").points(0, 99999));
        CHECK.due("a square just below 1", 0, one("field base 0 square 1 by 99999").points(0, 316));    // 99856
        CHECK.due("a square just above 1", 1, one("field base 0 square 1 by 99999").points(0, 317));    // 100489
        TenTrials wide = one("field base 0 square 1 by 99999");
        for (int d = 0; d <= 14141; d += 77) {
            CHECK.due("square of " + d, (int) Math.min(2000, (long) d * d / 99999), wide.points(0, d));
        }
        for (int d : new int[] {46340, 46341, 65535, 65536, 92682, 99998, 99999}) {
            CHECK.due("a square beyond an int, " + d, 2000, wide.points(0, d));
            CHECK.due("a dear square, " + d, 2000, one("field base 0 square 9999 by 1").points(0, d));
            CHECK.due("a dear line, " + d, 2000, one("field base 0 line 9999 by 1").points(0, d));
        }
    }

    @Sentence(of = "II", says = "root: N times the greatest whole r with r r not above 100 d, / M;")
    private static void roots() {
        worth(2, 50, 0);
        worth(2, 51, 23);       // r 10, 70 / 3
        worth(2, 52, 32);       // r 14 (196), 98 / 3
        worth(2, 53, 39);       // r 17 (289), 119 / 3
        CHECK.due("the longest root", 316, one("run base 99999 root 9999 by 99999").points(0, 0));      // r 3162, 31616838 / 99999
        // Every way there is; half the root stays below 2000 POINTS to the end, the root itself tells each r below that.
        TenTrials x = null;
        int r = 0;
        for (int d = 0; d <= 99999; d++) {
            while ((r + 1) * (r + 1) <= 100 * d) {
                r++;
            }
            if (d % 200 == 0) {
                x = Check.told("event field base 0 root 1 by 1;event field base 0 root 1 by 2;");
            }
            CHECK.due("the root of 100 times " + d, Math.min(2000, r), x.points(0, d));
            CHECK.due("half the root of 100 times " + d, r / 2, x.points(1, d));
        }
    }

    @Sentence(of = "II", says = "table: below the first d 0; at one that is told its; between two by a line (what the first has, and the way on from it times the difference of both by the distance of both, downwards); above the last that one's;")
    private static void tables() {
        worth(3, 301, 0);
        worth(3, 300, 0);
        worth(3, 291, 0);       // d 9: below the first
        worth(3, 290, 100);
        worth(3, 289, 103);     // 100 and 1 10 / 3
        worth(3, 288, 106);
        worth(3, 287, 110);
        worth(3, 283, 110);
        worth(3, 280, 110);
        worth(3, 279, 127);     // 110 and 1 1390 / 80
        worth(3, 201, 1482);    // 110 and 79 1390 / 80 = 1372
        worth(3, 200, 1500);
        worth(3, 199, 1500);
        worth(3, 0, 1500);
        worth(4, 0, 5);
        worth(4, 99999, 5);
        TenTrials x = one("field base 10 table 0:7,99999:2000");
        CHECK.due("a way below 0", 0, x.points(0, 9));
        CHECK.due("a way of 0", 7, x.points(0, 10));
        CHECK.due("at the far end", 1999, x.points(0, 99999));      // 7 and 99989 1993 / 99999 = 1992.8
        TenTrials far = one("field base 0 table 99999:3");
        CHECK.due("below the only one", 0, far.points(0, 99998));
        CHECK.due("at the only one", 3, far.points(0, 99999));
        TenTrials longest = one("field base 0 table 0:0,99999:2000");
        CHECK.due("the longest line, just below the end", 1999, longest.points(0, 99998));
        CHECK.due("the longest line at its end", 2000, longest.points(0, 99999));
        CHECK.due("the longest line, half", 999, longest.points(0, 49999));
        CHECK.due("the longest line, half and one", 1000, longest.points(0, 50000));
        TenTrials eight = one("field base 0 table 1:1,3:10,5:20,7:30,9:40,11:50,13:60,15:71");
        int[] want = {0, 1, 5, 10, 15, 20, 25, 30, 35, 40, 45, 50, 55, 60, 65, 71, 71};
        for (int d = 0; d < want.length; d++) {
            CHECK.due("eight twos, d " + d, want[d], eight.points(0, d));
        }
        CHECK.due("eight twos, far above", 71, eight.points(0, 99999));
    }

    @Sentence(of = "II", says = "2000 at most.")
    private static void twoThousandAtMost() {
        TenTrials x = Check.told("event field base 0 line 1 by 1;event field base 0 line 2001 by 2000;event field base 0 square 2001 by 1;"
            + "event field base 0 root 200 by 1;event field base 0 root 9999 by 1;event field base 0 table 0:1999,1:2000;");
        int[][] rows = {{0, 1999, 1999}, {0, 2000, 2000}, {0, 2001, 2000}, {0, 99999, 2000}, {1, 1999, 1999}, {1, 2000, 2000}, {1, 99999, 2000},
            {2, 0, 0}, {2, 1, 2000}, {2, 99999, 2000}, {3, 1, 2000}, {3, 2, 2000}, {4, 99999, 2000}, {5, 0, 1999}, {5, 1, 2000}, {5, 2, 2000}};
        for (int[] row : rows) {
            CHECK.due("points(" + row[0] + ", " + row[1] + ")", row[2], x.points(row[0], row[1]));
        }
        worth(1, 833, 2000);    // 5 633 633 = 2003445
        worth(2, 99999, 2000);  // r 3161, 22127 / 3 = 7375
    }

    private static void worst(TenTrials x, int e, int p, int want) {
        CHECK.due("worst(" + e + ", " + p + ")", want, x.worst(e, p));
    }

    @Sentence(of = "III", says = "WORST MARK for p POINTS in an EVENT: the worst MARK that is worth p or more (of run the greatest, of field the least).")
    private static void worstMarks() {
        TenTrials x = Check.told(TEXT);
        int[][] rows = {{0, 1, 997}, {0, 3, 993}, {0, 428, 1}, {1, 1, 215}, {1, 50, 300}, {1, 1997, 832}, {1, 1998, 833}, {1, 2000, 833},
            {2, 1, 51}, {2, 23, 51}, {2, 24, 52}, {3, 1, 290}, {3, 100, 290}, {3, 101, 289}, {3, 110, 287}, {3, 111, 279}, {3, 1500, 200}, {4, 5, 0}};
        for (int[] row : rows) {
            worst(x, row[0], row[1], row[2]);
            int worse = row[2] + (x.event(row[0], 0) == 0 ? 1 : -1);
            CHECK.due("it is worth so much", 1, x.points(row[0], row[2]) >= row[1] ? 1 : 0);
            CHECK.due("a worse one is not", 1, worse < 0 || x.points(row[0], worse) < row[1] ? 1 : 0);
        }
        // At the ends of all MARKS.
        worst(one("run base 99999 table 0:9"), 0, 9, 99999);
        worst(one("run base 99999 table 1:9"), 0, 9, 99998);
        worst(one("run base 99999 table 99999:9"), 0, 9, 0);
        worst(one("field base 0 table 0:9"), 0, 9, 0);
        worst(one("field base 0 table 1:9"), 0, 9, 1);
        worst(one("field base 0 table 99999:9"), 0, 9, 99999);
    }

    @Sentence(of = "9", says = "WORST MARK for p (0 .. 2000) POINTS in an EVENT.")
    private static void worstForAll() {
        TenTrials x = Check.told(TEXT);
        int[] forNothing = {99999, 0, 0, 99999, 0, 0};
        for (int e = 0; e < 6; e++) {
            worst(x, e, 0, forNothing[e]);
            worst(x, e, -1, -2);
            worst(x, e, 2001, -2);
        }
        worst(x, 1, 2000, 833);
        worst(one("field base 0 line 1 by 1"), 0, 2000, 2000);
        worst(one("run base 2000 line 1 by 1"), 0, 2000, 0);
    }

    @Sentence(of = "9", says = "NONE: none is worth so much;")
    private static void worstOfNone() {
        TenTrials x = Check.told(TEXT);
        int[][] rows = {{0, 428, 1}, {0, 429, -1}, {0, 2000, -1}, {3, 1500, 200}, {3, 1501, -1}, {4, 5, 0}, {4, 6, -1}, {5, 0, 0}, {5, 1, -1}};
        for (int[] row : rows) {
            worst(x, row[0], row[1], row[2]);
        }
        worst(one("run base 1999 line 1 by 1"), 0, 1999, 0);
        worst(one("run base 1999 line 1 by 1"), 0, 2000, -1);
    }

    @Sentence(of = "10", says = "The most POINTS that a MARK can be worth in an EVENT.")
    private static void top() {
        TenTrials x = Check.told(TEXT);
        int[] tops = {428, 2000, 2000, 1500, 5, 0, -2};
        for (int e = 0; e < tops.length; e++) {
            CHECK.due("top(" + e + ")", tops[e], x.top(e));
        }
        CHECK.due("top of a run with base 0", 0, one("run base 0 line 9999 by 1").top(0));
        CHECK.due("top of a run with base 1", 2000, one("run base 1 line 9999 by 1").top(0));
        CHECK.due("top of a field with base 99998", 2000, one("field base 99998 line 9999 by 1").top(0));
        CHECK.due("top of a table that begins at 0", 7, one("run base 0 table 0:7,1:8").top(0));
        CHECK.due("top of a table that no way comes to", 0, one("run base 99998 table 99999:7").top(0));
        CHECK.due("top of a table that a way comes to", 7, one("run base 99999 table 99999:7").top(0));
    }

    @Sentence(of = "11", says = {"The worst MARK in EVENT other that is worth as much as a MARK in EVENT e, or more (they may be one).", "NONE: none is;"})
    private static void same() {
        TenTrials x = Check.told(TEXT);
        int[][] rows = {{1, 300, 0, 883},   // 50: 3 117 / 7 = 50.1
            {0, 0, 3, 261},                 // 428: d 39 is 110 and 330, d 38 110 and 312
            {0, 2000, 1, 0}, {0, 99999, 3, 99999}, {3, 283, 3, 287}, {0, 998, 0, 99999}, {0, 0, 0, 1}, {1, 99999, 1, 833},
            {3, 0, 0, -1}, {0, 1, 4, -1}, {4, 7, 5, -1}, {5, 7, 5, 0},
            {1, 99999, 2, 7412},            // 2000: r 858, d 7362
            {0, -1, 1, -2}, {0, 100000, 1, -2}, {6, 0, 0, -2}, {-1, 0, 0, -2}, {0, 0, 6, -2}, {0, 0, -1, -2}};
        for (int[] row : rows) {
            CHECK.due("same(" + row[0] + ", " + row[1] + ", " + row[2] + ")", row[3], x.same(row[0], row[1], row[2]));
        }
        TenTrials y = Check.told("event run base 428 line 1 by 1;event run base 427 line 1 by 1;event field base 0 line 1 by 1;");
        CHECK.due("just as much as the most", 0, y.same(0, 1, 1));
        CHECK.due("one more than the most", -1, y.same(0, 0, 1));
    }

    @Sentence(of = "12", says = {"How much better a MARK in an EVENT must be (at least 1) so that it is worth more.", "NONE: however much better, it is not;"})
    private static void step() {
        TenTrials x = Check.told(TEXT);
        int[][] rows = {{0, 1000, 3}, {0, 998, 1}, {0, 997, 2}, {0, 99999, 99002}, {0, 2, 1}, {0, 1, -1}, {0, 0, -1},
            {1, 0, 215}, {1, 214, 1}, {1, 832, 1}, {1, 833, -1}, {1, 99999, -1}, {2, 50, 1}, {2, 0, 51},
            {3, 99999, 99709}, {3, 300, 10}, {3, 287, 8}, {3, 201, 1}, {3, 200, -1}, {4, 0, -1}, {5, 0, -1}, {5, 99999, -1},
            {0, -1, -2}, {0, 100000, -2}, {6, 5, -2}, {-1, 5, -2}};
        for (int[] row : rows) {
            CHECK.due("step(" + row[0] + ", " + row[1] + ")", row[2], x.step(row[0], row[1]));
        }
        CHECK.due("to the last MARK of a field", 99999, one("field base 0 table 99999:1").step(0, 0));
        CHECK.due("to the last MARK of a run", 99999, one("run base 99999 table 99999:1").step(0, 99999));
        CHECK.due("at 1999", 1, one("field base 0 line 1 by 1").step(0, 1999));
        CHECK.due("at 2000", -1, one("field base 0 line 1 by 1").step(0, 2000));
    }

    @Sentence(of = "48", says = "How many unlike POINTS MARKS from one to another one (no less; at most 2000 more) are worth in an EVENT.")
    private static void kinds() {
        TenTrials x = Check.told(TEXT);
        CHECK.due("one mark", 1, x.kinds(0, 993, 993));
        CHECK.due("1, 0", 2, x.kinds(0, 997, 998));
        CHECK.due("3, 2, 2, 1, 1, 0", 4, x.kinds(0, 993, 998));
        CHECK.due("all without points", 1, x.kinds(0, 1000, 3000));
        CHECK.due("2000 more", 429, x.kinds(0, 0, 2000));
        CHECK.due("at most 2000 more", -2, x.kinds(0, 1000, 3001));
        CHECK.due("no less", -2, x.kinds(0, 1000, 999));
        CHECK.due("110, 106, 103, 100, 0", 5, x.kinds(3, 280, 300));
        CHECK.due("the last mark", 1, x.kinds(1, 98000, 99999));
        CHECK.due("above the last mark", -2, x.kinds(1, 99999, 100000));
        CHECK.due("below the first", -2, x.kinds(1, -1, 5));
        TenTrials y = one("field base 0 line 1 by 1");
        CHECK.due("as many as there can be", 2001, y.kinds(0, 0, 2000));
        CHECK.due("1 .. 2000, and 2000 again", 2000, y.kinds(0, 1, 2001));
        CHECK.due("2000 alone", 1, y.kinds(0, 2000, 4000));
        CHECK.due("1999 and 2000", 2, y.kinds(0, 1999, 3999));
        CHECK.due("the last one of all", 1, y.kinds(0, 99999, 99999));
    }

    @Sentence(of = "50", says = {"The least p (0 .. 2000) so that one who had p POINTS in each EVENT, or the most that a MARK can be worth there, if that is less, would have n (0 .. 99999) POINTS or more of all EVENTS.", "NONE: none;"})
    private static void even() {
        TenTrials x = Check.told(TEXT);
        // The most are 428, 2000, 2000, 1500, 5, 0.
        int[][] rows = {{0, 0}, {1, 1}, {5, 1}, {6, 2}, {25, 5}, {26, 6}, {1717, 428}, {1718, 429}, {5932, 2000}, {5933, 2000},
            {5934, -1}, {99999, -1}, {100000, -2}, {-1, -2}};
        for (int[] row : rows) {
            CHECK.due("even(" + row[0] + ")", row[1], x.even(row[0]));
        }
        TenTrials none = Check.told("athlete;bonus 5 when 1=1;");
        CHECK.due("even(0) without events", 0, none.even(0));
        CHECK.due("even(1) without events", -1, none.even(1));
        TenTrials one = Check.told("event field base 0 line 1 by 1;bonus 5 when 1=1;");
        CHECK.due("without athletes, and no bonus", 1999, one.even(1999));
        CHECK.due("the most p", 2000, one.even(2000));
        CHECK.due("more than that", -1, one.even(2001));
        TenTrials ten = Check.told("event field base 0 line 1 by 1;".repeat(10));
        CHECK.due("ten events", 2000, ten.even(20000));
        CHECK.due("more than ten events have", -1, ten.even(20001));
        CHECK.due("a tenth of it, upwards", 1, ten.even(10));
        CHECK.due("one more", 2, ten.even(11));
    }
}
