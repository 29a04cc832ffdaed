/** Promises 30 to 32: meets by draws, and how many one wins. */
public final class MeetTest {
    private static final Check CHECK = new Check();
    private static final String EVENTS = "event field base 0 line 1 by 1 spread 5;event run base 100 line 1 by 1;"
        + "event field base 0 line 1 by 100 spread 999;";
    private static final TenTrials X = Check.told(EVENTS + "athlete;athlete;athlete;"
        + "mark 0 0 50;mark 0 1 40;mark 0 2 3;mark 1 0 50;mark 1 2 99999;mark 2 2 500;bonus 7 when points 0 > 52;");

    public static void main(String[] args) {
        met();
        meet();
        drawsWithoutSpread();
        tiesInMeets();
        odds();
        CHECK.end("MeetTest");
    }

    private static void met() {
        // Worked out by hand from the DRAWS: of seed 0 they are 5, 0, 987, 9, 347, 33; of seed 1 8, 0, 1806, 7, 1022, 1396.
        int[][] rows = {{0, 110, 1054, 0}, {1, 128, 1051, 8}, {12345, 122, 1051, 1}, {2147483647, 107, 1043, 1}};
        for (int[] row : rows) {
            for (int a = 0; a < 3; a++) {
                CHECK.due("met(" + row[0] + ", " + a + ")", row[a + 1], X.met(row[0], a));
            }
        }
        TenTrials low = Check.told("event run base 500 line 1 by 1 spread 999;athlete;mark 0 0 3;");
        CHECK.due("no less than 0", 500, low.met(0, 0));    // the DRAW is 192: 807 less than 3
        CHECK.due("met(-1, 0)", -2, X.met(-1, 0));
        CHECK.due("met(0, 3)", -2, X.met(0, 3));
        CHECK.due("met(0, -1)", -2, X.met(0, -1));
        CHECK.due("the marks stay", 50, X.mark(0, 0));
    }

    private static void meet() {
        CHECK.due("meet(1, 0)", 1, X.meet(1, 0));
        CHECK.due("meet(1, 1)", 0, X.meet(1, 1));
        CHECK.due("meet(1, 2)", 2, X.meet(1, 2));
        CHECK.due("meet(1, 3)", -1, X.meet(1, 3));
        CHECK.due("meet(1, -1)", -2, X.meet(1, -1));
        CHECK.due("meet(-1, 0)", -2, X.meet(-1, 0));
        CHECK.due("meet(-1, 3)", -2, X.meet(-1, 3));
        CHECK.due("meet of nobody", -1, Check.told("").meet(0, 0));
    }

    private static void drawsWithoutSpread() {
        // The mark without spread takes a DRAW, too; one that is not there takes none.
        TenTrials x = Check.told(EVENTS + "athlete;mark 0 1 40;mark 0 2 5000;");
        CHECK.due("a draw is taken", 60 + (5000 + second(1) - 999) / 100, x.met(1, 0));
        x.sets(0, 1, -1);
        CHECK.due("no draw is taken", (5000 + first(1) - 999) / 100, x.met(1, 0));
    }

    private static int first(long x) {
        return (int) ((1103515245L * x + 12345) % 2147483648L / 64 % 1999);
    }

    private static int second(long x) {
        return first((1103515245L * x + 12345) % 2147483648L);
    }

    private static void tiesInMeets() {
        TenTrials x = Check.told("event field base 0 line 1 by 1;event field base 0 line 1 by 1;athlete;athlete;"
            + "mark 0 0 50;mark 0 1 50;mark 1 0 70;mark 1 1 30;");
        CHECK.due("tie none", 0, x.meet(5, 0));
        x.tie(1);
        CHECK.due("tie best", 1, x.meet(5, 0));
        x.sets(0, 1, 51);
        CHECK.due("no tie", 0, x.meet(5, 0));
    }

    private static void odds() {
        TenTrials x = Check.told("event field base 0 line 1 by 1 spread 10;athlete;athlete;athlete;"
            + "mark 0 0 100;mark 1 0 102;mark 2 0 99;");
        int[][] rows = {{0, 1, 0, 1, 0}, {0, 40, 13, 19, 8}, {5, 10, 4, 4, 2}, {1000, 40, 14, 20, 6}, {2147483607, 40, 13, 15, 12}};
        for (int[] row : rows) {
            for (int a = 0; a < 3; a++) {
                CHECK.due("odds(" + row[0] + ", " + row[1] + ", " + a + ")", row[a + 2], x.odds(row[0], row[1], a));
            }
        }
        CHECK.due("odds(2147483608, 40, 0)", -2, x.odds(2147483608, 40, 0));
        CHECK.due("odds(2147483647, 1, 0)", -2, x.odds(2147483647, 1, 0));
        CHECK.due("the last of all", 1, x.odds(2147483646, 1, 0) + x.odds(2147483646, 1, 1) + x.odds(2147483646, 1, 2));
        CHECK.due("odds(-1, 5, 0)", -2, x.odds(-1, 5, 0));
        CHECK.due("odds(0, 0, 0)", -2, x.odds(0, 0, 0));
        CHECK.due("odds(0, 41, 0)", -2, x.odds(0, 41, 0));
        CHECK.due("odds(0, 5, 3)", -2, x.odds(0, 5, 3));
        CHECK.due("odds(0, 5, -1)", -2, x.odds(0, 5, -1));
    }
}
