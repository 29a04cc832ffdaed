/** Promises 22 to 24: what one needs in the rest, in one event alone, to pass another one. */
public final class NeedTest {
    private static final Check CHECK = new Check();
    // The most are 2000, 300, 50; athlete 0 has 100 in the first.
    private static final String TEXT = "event field base 0 line 1 by 1;event run base 300 line 1 by 1;event field base 0 table 10:50;"
        + "athlete;athlete;mark 0 0 100;bonus 40 when least > 29 and done = 3;bonus 5 when points 2 = 7;";
    private static final TenTrials X = Check.told(TEXT);

    public static void main(String[] args) {
        need();
        needWithoutOpenEvents();
        needIn();
        passByTotal();
        passByTies();
        passWithBonus();
        CHECK.end("NeedTest");
    }

    private static void need() {
        // 100 and 2 p, 40 more from 30 on, 5 more for 7 alone; 50 at most.
        int[][] rows = {{0, 0}, {100, 0}, {101, 1}, {112, 6}, {113, 7}, {119, 7}, {120, 10}, {158, 29}, {159, 30},
            {200, 30}, {201, 31}, {240, 50}, {241, -1}, {99999, -1}, {100000, -2}, {-1, -2}};
        for (int[] row : rows) {
            CHECK.due("need(0, " + row[0] + ")", row[1], X.need(0, row[0]));
        }
        CHECK.due("need(1, 26)", 7, X.need(1, 26));
        CHECK.due("need(1, 27)", 9, X.need(1, 27));
        CHECK.due("need(1, 190)", 50, X.need(1, 190));
        CHECK.due("need(1, 191)", -1, X.need(1, 191));
        CHECK.due("need(2, 0)", -2, X.need(2, 0));
        CHECK.due("need(-1, 0)", -2, X.need(-1, 0));
        CHECK.due("nothing changed", 100, X.of(0, 0));
        CHECK.due("no mark came", -1, X.mark(0, 1));
        TenTrials wide = Check.told("event field base 0 line 1 by 1;athlete;");
        CHECK.due("need up to 2000", 2000, wide.need(0, 2000));
        CHECK.due("need above", -1, wide.need(0, 2001));
    }

    private static void needWithoutOpenEvents() {
        TenTrials x = Check.told("event field base 0 line 1 by 1;athlete;mark 0 0 7;bonus 3 when done = 1;");
        CHECK.due("what is there is enough", 0, x.need(0, 10));
        CHECK.due("and no more", -1, x.need(0, 11));
        TenTrials none = Check.told("athlete;bonus 3 when done = 0;");
        CHECK.due("without events", 0, none.need(0, 3));
        CHECK.due("without events, more", -1, none.need(0, 4));
    }

    private static void needIn() {
        int[][] rows = {{0, 0, 0, 0}, {0, 0, 1, 1}, {0, 0, 2000, 2000}, {0, 0, 2001, -1},
            {0, 1, 100, 0}, {0, 1, 150, 50}, {0, 1, 400, 300}, {0, 1, 401, -1},
            {0, 2, 106, 6}, {0, 2, 107, 7}, {0, 2, 112, 7}, {0, 2, 113, 13}, {0, 2, 150, 50}, {0, 2, 151, -1},
            {1, 2, 12, 7}, {0, 1, 100000, -2}, {0, 1, -1, -2}, {2, 0, 0, -2}, {-1, 0, 0, -2}, {0, 3, 0, -2}, {0, -1, 0, -2}};
        for (int[] row : rows) {
            CHECK.due("needIn(" + row[0] + ", " + row[1] + ", " + row[2] + ")", row[3], X.needIn(row[0], row[1], row[2]));
        }
        CHECK.due("nothing changed", 100, X.of(0, 0));
        TenTrials x = Check.told("event field base 0 line 1 by 1;event field base 0 line 1 by 1;athlete;mark 0 0 7;mark 0 1 3;"
            + "bonus 20 when done = 2 and least > 4;");
        CHECK.due("in place of what is there", 5, x.needIn(0, 1, 32));
        CHECK.due("the other one's least hinders", 30, x.needIn(0, 0, 33));
    }

    private static TenTrials three(String more) {
        return Check.told("event field base 0 line 1 by 1;event field base 0 line 1 by 1;event run base 9 line 1 by 1;athlete;athlete;athlete;"
            + "mark 0 0 50;mark 0 1 50;mark 1 0 60;mark 1 1 20;mark 2 0 30;" + more);
    }

    private static void passByTotal() {
        TenTrials x = three("");
        CHECK.due("the greater number needs more", 41, x.pass(1, 1, 0));
        CHECK.due("the lesser one as much", 30, x.pass(0, 0, 1));
        CHECK.due("without a mark there", 51, x.pass(2, 1, 1));
        CHECK.due("ahead at once", 0, x.pass(0, 2, 1));
        CHECK.due("not by so little", -1, x.pass(2, 2, 1));
        x.sets(2, 0, 72);
        CHECK.due("just by the most", 9, x.pass(2, 2, 1));
        x.sets(2, 0, 71);
        CHECK.due("not by the most", -1, x.pass(2, 2, 1));
        x.sets(2, 0, 30);
        CHECK.due("one and the same", -2, x.pass(1, 1, 1));
        CHECK.due("pass(3, 0, 0)", -2, x.pass(3, 0, 0));
        CHECK.due("pass(0, 3, 1)", -2, x.pass(0, 3, 1));
        CHECK.due("pass(0, 0, 3)", -2, x.pass(0, 0, 3));
        CHECK.due("pass(0, 0, -1)", -2, x.pass(0, 0, -1));
        CHECK.due("pass(-1, 0, 0)", -2, x.pass(-1, 0, 0));
        CHECK.due("pass(0, -1, 1)", -2, x.pass(0, -1, 1));
        CHECK.due("nothing changed", 80, x.of(1, 0));
    }

    private static void passByTies() {
        TenTrials x = three("tie best;");
        CHECK.due("as much with a better best", 40, x.pass(1, 1, 0));
        CHECK.due("as much with a worse one", 31, x.pass(0, 0, 1));
        x.tie(2);
        CHECK.due("as many wins, the greater number", 41, x.pass(1, 1, 0));
        CHECK.due("as many wins, the lesser one", 30, x.pass(0, 0, 1));
        CHECK.due("the win is taken from the other one", 70, x.pass(2, 1, 0));
        x.tie(0);
        CHECK.due("without wins it is not enough", 71, x.pass(2, 1, 0));
    }

    private static void passWithBonus() {
        TenTrials x = three("bonus 100 when points 1 = 5;bonus 30 when done = 1;");
        // Athlete 2 has 60 now; with a mark in event 1 the 30 are gone.
        CHECK.due("by a bonus alone", 5, x.pass(2, 1, 0));
        CHECK.due("its mark in place of the other one", 71, x.pass(2, 0, 0));
        CHECK.due("the other one has 60 by its bonus", 10, x.pass(0, 0, 2));
        CHECK.due("50 and as much, but for 5", 5, x.pass(0, 1, 2));
        TenTrials y = three("bonus 100 when least > 4;");
        CHECK.due("a bonus for a worse mark is one of the other one's, too", 41, y.pass(1, 1, 0));
    }
}
