/** Promises 30 to 32 with the terms' part III: meets by draws, and how many one wins. */
public final class MeetTest {
    private static final Check CHECK = new Check();
    private static final String EVENTS = "event field base 0 line 1 by 1 spread 5;event run base 100 line 1 by 1;"
        + "event field base 0 line 1 by 100 spread 999;";
    private static final String TEXT = EVENTS + "athlete;athlete;athlete;"
        + "mark 0 0 50;mark 0 1 40;mark 0 2 3;mark 1 0 50;mark 1 2 99999;mark 2 2 500;bonus 7 when points 0 > 52;";

    public static void main(String[] args) throws IllegalAccessException {
        CHECK.run(MeetTest.class);
    }

    private static long next(long x) {
        return (1103515245L * x + 12345L) % 2147483648L;
    }

    @Sentence(of = "31", says = "MEET by a seed: the TOTAL of an ATHLETE.")
    private static void met() {
        TenTrials x = Check.told(TEXT);
        // Worked out by hand from the DRAWS: of seed 0 they are 5, 0, 987, 9, 347, 33; of seed 1 8, 0, 1806, 7, 1022, 1396.
        int[][] rows = {{0, 110, 1054, 0}, {1, 128, 1051, 8}, {12345, 122, 1051, 1}, {2147483647, 107, 1043, 1}};
        for (int[] row : rows) {
            for (int a = 0; a < 3; a++) {
                CHECK.due("met(" + row[0] + ", " + a + ")", row[a + 1], x.met(row[0], a));
            }
        }
        CHECK.due("met(-1, 0)", -2, x.met(-1, 0));
        CHECK.due("met(-2147483648, 0)", -2, x.met(-2147483648, 0));
        CHECK.due("met(0, 3)", -2, x.met(0, 3));
        CHECK.due("met(0, -1)", -2, x.met(0, -1));
        CHECK.stays("met", 128, () -> Check.told(TEXT), y -> y.met(1, 0));
    }

    @Sentence(of = "III", says = "DRAW of m: x becomes (1103515245 x + 12345) mod 2 to the 31; floor(x / 64) mod m.")
    private static void draws() {
        // A mark of 1000 with a spread of 999 in a line 1 by 1 tells each DRAW of 1999 by its POINTS, less 1.
        TenTrials x = Check.told("event field base 0 line 1 by 1 spread 999;athlete;mark 0 0 1000;");
        CHECK.due("seed 0: 12345, 192", 1 + 192, x.met(0, 0));
        for (int seed : new int[] {0, 1, 2, 63, 64, 65535, 65536, 12345678, 1073741823, 1073741824, 2147483583, 2147483646, 2147483647}) {
            CHECK.due("met(" + seed + ", 0)", 1 + (int) (next(seed) / 64 % 1999), x.met(seed, 0));
        }
        TenTrials narrow = Check.told("event field base 0 line 1 by 1 spread 1;athlete;mark 0 0 1000;");
        int[] seen = new int[3];
        for (int seed = 0; seed < 200; seed++) {
            int draw = (int) (next(seed) / 64 % 3);
            CHECK.due("a draw of 3, seed " + seed, 999 + draw, narrow.met(seed, 0));
            seen[draw]++;
        }
        CHECK.due("each of the three was drawn", 1, seen[0] > 0 && seen[1] > 0 && seen[2] > 0 ? 1 : 0);
    }

    @Sentence(of = "III", says = "MEET by a seed (x at first): ATHLETE by ATHLETE, EVENT by EVENT with a MARK:")
    private static void orderOfDraws() {
        // The mark without spread takes a DRAW, too; one that is not there takes none.
        TenTrials x = Check.told(EVENTS + "athlete;mark 0 1 40;mark 0 2 5000;");
        CHECK.due("a draw is taken", 60 + (int) (5000 + next(next(1)) / 64 % 1999 - 999) / 100, x.met(1, 0));
        x.sets(0, 1, -1);
        CHECK.due("no draw is taken", (int) (5000 + next(1) / 64 % 1999 - 999) / 100, x.met(1, 0));
        // All EVENTS of an ATHLETE come ahead of the next ATHLETE's.
        StringBuilder text = new StringBuilder();
        for (int e = 0; e < 10; e++) {
            text.append("event field base 0 line 1 by 1 spread ").append(90 + e).append(';');
        }
        TenTrials full = Check.told(text + "athlete;".repeat(8));
        for (int a = 0; a < 8; a++) {
            for (int e = 0; e < 10; e++) {
                full.sets(a, e, 100);
            }
        }
        full.sets(3, 4, -1);
        long drawn = 77;
        for (int a = 0; a < 8; a++) {
            int sum = 0;
            for (int e = 0; e < 10; e++) {
                if (a == 3 && e == 4) {
                    continue;
                }
                drawn = next(drawn);
                sum += 100 + (int) (drawn / 64 % (2 * (90 + e) + 1)) - (90 + e);
            }
            CHECK.due("met(77, " + a + ")", sum, full.met(77, a));
        }
    }

    @Sentence(of = "III", says = "a DRAW of twice the spread and 1, less the spread: the MARK is so much more (0 .. 99999);")
    private static void swings() {
        TenTrials still = Check.told("event field base 0 line 1 by 1;athlete;mark 0 0 1000;");
        TenTrials low = Check.told("event run base 500 line 1 by 1 spread 999;event field base 0 table 0:1,1:2;athlete;mark 0 0 3;");
        CHECK.due("no less than 0", 500, low.met(0, 0));    // the DRAW is 192: 807 less than 3
        TenTrials high = Check.told("event field base 99000 line 1 by 1 spread 999;event run base 99999 table 0:7;athlete;mark 0 0 99990;");
        for (int seed = 0; seed < 100; seed++) {
            int swing = (int) (next(seed) / 64 % 1999) - 999;
            CHECK.due("without a spread, seed " + seed, 1000, still.met(seed, 0));
            CHECK.due("no less than 0, seed " + seed, Math.max(0, 500 - Math.max(0, 3 + swing)), low.met(seed, 0));
            CHECK.due("no more than 99999, seed " + seed, Math.max(0, Math.min(99999, 99990 + swing) - 99000), high.met(seed, 0));
        }
        // A mark at the end of all, drawn beyond it, is still a MARK.
        TenTrials end = Check.told("event field base 0 table 0:9,1:10 spread 1;athlete;mark 0 0 0;bonus 3 when done = 1;");
        for (int seed = 0; seed < 50; seed++) {
            int draw = (int) (next(seed) / 64 % 3) - 1;
            CHECK.due("at the end, seed " + seed, draw == 1 ? 13 : 12, end.met(seed, 0));
        }
    }

    @Sentence(of = "III", says = "by these all RANK anew.")
    private static void ranksAnew() {
        TenTrials x = Check.told("event field base 0 line 1 by 1;event field base 0 line 1 by 1;athlete;athlete;"
            + "mark 0 0 50;mark 0 1 50;mark 1 0 70;mark 1 1 30;");
        CHECK.due("tie none", 0, x.meet(5, 0));
        x.tie(1);
        CHECK.due("tie best", 1, x.meet(5, 0));
        x.sets(0, 1, 51);
        CHECK.due("no tie", 0, x.meet(5, 0));
        // TESTS are of the MARKS that are drawn: the bonus decides.
        TenTrials y = Check.told("event field base 0 line 1 by 1 spread 1;athlete;athlete;mark 0 0 50;mark 1 0 60;bonus 500 when points 0 = 51;");
        for (int seed = 0; seed < 50; seed++) {
            int first = (int) (next(seed) / 64 % 3) - 1;
            CHECK.due("who wins by seed " + seed, first == 1 ? 0 : 1, y.meet(seed, 0));
        }
        // The TOTALS are alike but where the second one comes to 51.
        TenTrials z = Check.told("event field base 0 table 0:5,50:5,51:6 spread 1;athlete;athlete;tie wins;mark 0 0 49;mark 1 0 50;");
        for (int seed = 0; seed < 50; seed++) {
            int second = (int) (next(next(seed)) / 64 % 3) - 1;
            CHECK.due("who wins by seed " + seed, second == 1 ? 1 : 0, z.meet(seed, 0));
        }
    }

    @Sentence(of = "30", says = {"MEET by a seed (0 and more): who is at the k-th place (from 0).", "NONE: not so many;"})
    private static void meet() {
        TenTrials x = Check.told(TEXT);
        int[] places = {1, 0, 2, -1, -1};
        for (int k = 0; k < places.length; k++) {
            CHECK.due("meet(1, " + k + ")", places[k], x.meet(1, k));
        }
        CHECK.due("meet(1, 2147483647)", -1, x.meet(1, 2147483647));
        CHECK.due("meet(1, -1)", -2, x.meet(1, -1));
        CHECK.due("meet(-1, 0)", -2, x.meet(-1, 0));
        CHECK.due("meet(-1, 3)", -2, x.meet(-1, 3));
        CHECK.due("meet(0, 0)", 1, x.meet(0, 0));
        CHECK.due("meet(2147483647, 0)", 1, x.meet(2147483647, 0));
        CHECK.due("meet of nobody", -1, Check.told("").meet(0, 0));
        CHECK.due("meet of nobody, below 0", -2, Check.told("").meet(0, -1));
        CHECK.stays("meet", 1, () -> Check.told(TEXT), y -> y.meet(1, 0));
        TenTrials eight = Check.told("event field base 0 line 1 by 1;" + "athlete;".repeat(8) + "mark 7 0 5;");
        CHECK.due("the first of eight", 7, eight.meet(3, 0));
        CHECK.due("the last of eight", 6, eight.meet(3, 7));
        CHECK.due("the ninth of eight", -1, eight.meet(3, 8));
    }

    @Sentence(of = "32", says = "Of n (1 .. 40) MEETS by seeds s, s and 1, .. (s and n no more than 2147483647; s 0 and more) how many an ATHLETE wins.")
    private static void odds() {
        String text = "event field base 0 line 1 by 1 spread 10;athlete;athlete;athlete;mark 0 0 100;mark 1 0 102;mark 2 0 99;";
        TenTrials x = Check.told(text);
        int[][] rows = {{0, 1, 0, 1, 0}, {0, 40, 13, 19, 8}, {5, 10, 4, 4, 2}, {1000, 40, 14, 20, 6}, {2147483607, 40, 13, 15, 12}};
        for (int[] row : rows) {
            for (int a = 0; a < 3; a++) {
                CHECK.due("odds(" + row[0] + ", " + row[1] + ", " + a + ")", row[a + 2], x.odds(row[0], row[1], a));
            }
        }
        int[] wins = new int[3];
        for (int seed = 500; seed < 540; seed++) {
            wins[x.meet(seed, 0)]++;
        }
        for (int a = 0; a < 3; a++) {
            CHECK.due("as many as the single meets", wins[a], x.odds(500, 40, a));
        }
        CHECK.due("odds(2147483608, 40, 0)", -2, x.odds(2147483608, 40, 0));
        CHECK.due("odds(2147483647, 1, 0)", -2, x.odds(2147483647, 1, 0));
        CHECK.due("the last of all", 1, x.odds(2147483646, 1, 0) + x.odds(2147483646, 1, 1) + x.odds(2147483646, 1, 2));
        CHECK.due("odds(-1, 5, 0)", -2, x.odds(-1, 5, 0));
        CHECK.due("odds(0, 0, 0)", -2, x.odds(0, 0, 0));
        CHECK.due("odds(0, 41, 0)", -2, x.odds(0, 41, 0));
        CHECK.due("odds(0, 5, 3)", -2, x.odds(0, 5, 3));
        CHECK.due("odds(0, 5, -1)", -2, x.odds(0, 5, -1));
        CHECK.stays("odds", 13, () -> Check.told(text), y -> y.odds(0, 40, 0));
        CHECK.due("alone, all", 40, Check.told("athlete;").odds(0, 40, 0));
    }
}
