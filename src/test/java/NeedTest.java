/** Promises 22 to 24: what one needs in the rest, in one event alone, to pass another one. */
public final class NeedTest {
    private static final Check CHECK = new Check();
    private static final String FIELD = "event field base 0 line 1 by 1;";
    // The most are 2000, 300, 50; athlete 0 has 100 in the first.
    private static final String TEXT = FIELD + "event run base 300 line 1 by 1;event field base 0 table 10:50;"
        + "athlete;athlete;mark 0 0 100;bonus 40 when least > 29 and done = 3;bonus 5 when points 2 = 7;";

    public static void main(String[] args) throws IllegalAccessException {
        CHECK.run(NeedTest.class);
    }

    private static void need(TenTrials x, int a, int n, int want) {
        CHECK.due("need(" + a + ", " + n + ")", want, x.need(a, n));
    }

    @Sentence(of = "22", says = "The least p (0 .. 2000) so that an ATHLETE with p POINTS in each EVENT without a MARK (they count as MARKS) has a TOTAL of n (0 .. 99999) or more;")
    private static void needs() {
        TenTrials x = Check.told(TEXT);
        // 100 and 2 p, 40 more from 30 on, 5 more for 7 alone; 50 at most.
        int[][] rows = {{0, 0}, {100, 0}, {101, 1}, {112, 6}, {113, 7}, {119, 7}, {120, 10}, {158, 29}, {159, 30},
            {200, 30}, {201, 31}, {240, 50}, {241, -1}, {99999, -1}, {100000, -2}, {-1, -2}};
        for (int[] row : rows) {
            need(x, 0, row[0], row[1]);
        }
        need(x, 1, 26, 7);
        need(x, 1, 27, 9);
        CHECK.stays("need", 30, () -> Check.told(TEXT), y -> y.need(0, 200));
        TenTrials wide = Check.told(FIELD + "athlete;");
        need(wide, 0, 0, 0);
        need(wide, 0, 1, 1);
        need(wide, 0, 1999, 1999);
        need(wide, 0, 2000, 2000);
        TenTrials ten = Check.told(FIELD.repeat(10) + "athlete;");
        need(ten, 0, 20000, 2000);
        need(ten, 0, 19991, 2000);
        need(ten, 0, 19990, 1999);
        // p of 0 is a MARK, too: done counts it, least is 0 by it.
        TenTrials marks = Check.told(FIELD.repeat(2) + "athlete;mark 0 0 9;bonus 5 when done = 2 and least = 0;");
        CHECK.due("the total now", 9, marks.of(0, 0));
        need(marks, 0, 14, 0);
        need(marks, 0, 15, 6);
        // The bonus may be lost by more: a least p of several stretches.
        TenTrials lost = Check.told(FIELD + "athlete;bonus 500 when total < 10;");
        need(lost, 0, 500, 0);
        need(lost, 0, 509, 9);
        need(lost, 0, 510, 510);
    }

    @Sentence(of = "22", says = "p is no more than the most that a MARK can be worth in each of these EVENTS.")
    private static void needsNoMoreThanTheMost() {
        TenTrials x = Check.told(TEXT);
        need(x, 0, 240, 50);
        need(x, 0, 241, -1);
        need(x, 1, 190, 50);
        need(x, 1, 191, -1);
        x.sets(0, 2, 10);
        // Without the event whose most is 50 the most is 300.
        need(x, 0, 490, 300);
        need(x, 0, 491, -1);
        x.sets(0, 1, 0);
        need(x, 0, 490, 0);
        need(x, 0, 491, -1);
        x.sets(0, 0, -1);
        need(x, 0, 2390, 2000);
        need(x, 0, 2391, -1);
        TenTrials nothing = Check.told(FIELD + "event field base 99999 line 1 by 1;athlete;bonus 7 when done = 2;");
        need(nothing, 0, 7, 0);
        need(nothing, 0, 8, -1);
    }

    @Sentence(of = "22", says = "NONE: none;")
    private static void needsOfNone() {
        TenTrials x = Check.told(FIELD + "athlete;mark 0 0 7;bonus 3 when done = 1;");
        CHECK.due("what is there is enough", 0, x.need(0, 10));
        CHECK.due("and no more", -1, x.need(0, 11));
        TenTrials none = Check.told("athlete;bonus 3 when done = 0;");
        CHECK.due("without events", 0, none.need(0, 3));
        CHECK.due("without events, more", -1, none.need(0, 4));
        TenTrials wide = Check.told(FIELD + "athlete;");
        CHECK.due("above 2000", -1, wide.need(0, 2001));
        CHECK.due("the greatest n", -1, wide.need(0, 99999));
    }

    private static void needIn(TenTrials x, int a, int e, int n, int want) {
        CHECK.due("needIn(" + a + ", " + e + ", " + n + ")", want, x.needIn(a, e, n));
    }

    @Sentence(of = "23", says = {"The least p (0 .. the most that a MARK can be worth there) so that an ATHLETE with p POINTS in an EVENT in place of what is there (a MARK) has a TOTAL of n (0 .. 99999) or more.", "NONE: none;"})
    private static void needsInOne() {
        TenTrials x = Check.told(TEXT);
        int[][] rows = {{0, 0, 0, 0}, {0, 0, 1, 1}, {0, 0, 2000, 2000}, {0, 0, 2001, -1},
            {0, 1, 0, 0}, {0, 1, 99, 0}, {0, 1, 100, 0}, {0, 1, 101, 1}, {0, 1, 150, 50}, {0, 1, 400, 300}, {0, 1, 401, -1},
            {0, 2, 106, 6}, {0, 2, 107, 7}, {0, 2, 112, 7}, {0, 2, 113, 13}, {0, 2, 150, 50}, {0, 2, 151, -1},
            {1, 2, 12, 7}, {0, 1, 99999, -1}, {0, 1, 100000, -2}, {0, 1, -1, -2}, {2, 0, 0, -2}, {-1, 0, 0, -2}, {0, 3, 0, -2}, {0, -1, 0, -2}};
        for (int[] row : rows) {
            needIn(x, row[0], row[1], row[2], row[3]);
        }
        CHECK.stays("needIn", 50, () -> Check.told(TEXT), y -> y.needIn(0, 1, 150));
        TenTrials y = Check.told(FIELD.repeat(2) + "athlete;mark 0 0 7;mark 0 1 3;bonus 20 when done = 2 and least > 4;");
        CHECK.due("in place of what is there", 5, y.needIn(0, 1, 32));
        CHECK.due("the other one's least hinders", 30, y.needIn(0, 0, 33));
        TenTrials nothing = Check.told("event field base 99999 line 1 by 1;athlete;bonus 7 when done = 1;");
        CHECK.due("p of 0 is a mark", 0, nothing.needIn(0, 0, 7));
        CHECK.due("the most is 0", -1, nothing.needIn(0, 0, 8));
        CHECK.due("without a mark there is no bonus", 0, nothing.of(0, 0));
    }

    private static TenTrials three(String more) {
        return Check.told(FIELD.repeat(2) + "event run base 9 line 1 by 1;athlete;athlete;athlete;"
            + "mark 0 0 50;mark 0 1 50;mark 1 0 60;mark 1 1 20;mark 2 0 30;" + more);
    }

    @Sentence(of = "24", says = {"The least p likewise so that the ATHLETE is ahead of another one in RANK", "NONE: none;", "-2 (one and the same, too)."})
    private static void passByTotal() {
        TenTrials x = three("");
        CHECK.due("the greater number needs more", 41, x.pass(1, 1, 0));
        CHECK.due("the lesser one as much", 30, x.pass(0, 0, 1));
        CHECK.due("without a mark there", 51, x.pass(2, 1, 1));
        CHECK.due("ahead at once", 0, x.pass(0, 2, 1));
        CHECK.due("not by so little", -1, x.pass(2, 2, 1));
        x.sets(2, 0, 72);
        CHECK.due("just by the most", 9, x.pass(2, 2, 1));
        x.sets(2, 0, 71);
        CHECK.due("not by the most", -1, x.pass(2, 2, 1));
        CHECK.due("one and the same", -2, x.pass(1, 1, 1));
        CHECK.stays("pass", 41, () -> three(""), y -> y.pass(1, 1, 0));
        TenTrials full = Check.told(FIELD + "athlete;athlete;mark 0 0 2000;mark 1 0 2000;");
        CHECK.due("the lesser number comes to 2000", 2000, full.pass(0, 0, 1));
        CHECK.due("the greater one can't pass it", -1, full.pass(1, 0, 0));
        full.sets(0, 0, 1999);
        CHECK.due("but one less", 2000, full.pass(1, 0, 0));
        TenTrials nothing = Check.told(FIELD + "athlete;athlete;");
        CHECK.due("nothing against nothing, the lesser number", 0, nothing.pass(0, 0, 1));
        CHECK.due("nothing against nothing, the greater one", 1, nothing.pass(1, 0, 0));
    }

    @Sentence(of = "24", says = "(wins counted by POINTS as they are then).")
    private static void passByTies() {
        TenTrials x = three("tie best;");
        CHECK.due("as much with a better best", 40, x.pass(1, 1, 0));
        CHECK.due("as much with a worse one", 31, x.pass(0, 0, 1));
        x.tie(2);
        CHECK.due("as many wins, the greater number", 41, x.pass(1, 1, 0));
        CHECK.due("as many wins, the lesser one", 30, x.pass(0, 0, 1));
        CHECK.due("the win is taken from the other one", 70, x.pass(2, 1, 0));
        x.tie(0);
        CHECK.due("without wins it is not enough", 71, x.pass(2, 1, 0));
    }

    @Sentence(of = "24", says = "The least p likewise")
    private static void passWithBonus() {
        TenTrials x = three("bonus 100 when points 1 = 5;bonus 30 when done = 1;");
        // Athlete 2 has 60 now; with a mark in event 1 the 30 are gone.
        CHECK.due("by a bonus alone", 5, x.pass(2, 1, 0));
        CHECK.due("its mark in place of the other one", 71, x.pass(2, 0, 0));
        CHECK.due("the other one has 60 by its bonus", 10, x.pass(0, 0, 2));
        CHECK.due("50 and as much, but for 5", 5, x.pass(0, 1, 2));
        // Both have 50 before; what a MARK of 0 POINTS takes away, or brings, counts at once.
        TenTrials lost = Check.told(FIELD.repeat(2) + "athlete;athlete;mark 0 0 25;mark 0 1 25;mark 1 0 50;bonus 7 when done = 1;");
        CHECK.due("ahead by a bonus", 0, lost.rank(1));
        CHECK.due("which the MARK takes away", 1, lost.pass(1, 1, 0));
        TenTrials won = Check.told(FIELD.repeat(2) + "athlete;athlete;mark 0 0 25;mark 0 1 25;mark 1 0 50;bonus 7 when done = 2 and least = 0;");
        CHECK.due("behind without a bonus", 1, won.rank(1));
        CHECK.due("which the MARK brings", 0, won.pass(1, 1, 0));
        TenTrials y = three("bonus 100 when least > 4;");
        CHECK.due("a bonus for a worse mark is one of the other one's, too", 41, y.pass(1, 1, 0));
    }
}
