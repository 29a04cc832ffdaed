/** Promises 25 to 29, 44 and 45 with the terms' part III: training, gains, what an hour pays, the best spread of hours. */
public final class TrainingTest {
    private static final Check CHECK = new Check();
    private static final String FIELD = "event field base 0 line 1 by 1;";
    // More POINTS for hours 0 .. 5: event 0: 0 2 5 6 8 10; event 1: 0 6 10 14 16 20 (then 20); event 2: none.
    private static final String TEXT = "event run base 200 line 1 by 1;event field base 0 line 2 by 1;"
        + "event field base 0 table 100:50;athlete;athlete;mark 0 0 150;mark 0 1 10;"
        + "gain 0 0 30 in 10;gain 0 1 20 in 5;gain 0 2 99 in 9;";

    public static void main(String[] args) throws IllegalAccessException {
        CHECK.run(TrainingTest.class);
    }

    @Sentence(of = "25", says = {"The MARK that an ATHLETE has in an EVENT TRAINED for h (0 .. 999) hours.", "NONE: there is none;"})
    private static void trained() {
        TenTrials x = Check.told(TEXT);
        int[][] rows = {{0, 0, 0, 150}, {0, 0, 1, 148}, {0, 0, 5, 140}, {0, 0, 10, 135}, {0, 0, 999, 121},
            {0, 1, 0, 10}, {0, 1, 1, 13}, {0, 1, 5, 20}, {0, 1, 999, 29}, {0, 2, 0, -1}, {0, 2, 3, -1}, {1, 0, 3, -1}, {1, 0, 999, -1},
            {0, 0, -1, -2}, {0, 0, 1000, -2}, {2, 0, 0, -2}, {-1, 0, 0, -2}, {0, 3, 0, -2}, {0, -1, 0, -2}, {1, 0, 1000, -2}};
        for (int[] row : rows) {
            CHECK.due("trained(" + row[0] + ", " + row[1] + ", " + row[2] + ")", row[3], x.trained(row[0], row[1], row[2]));
        }
        CHECK.stays("trained", 140, () -> Check.told(TEXT), y -> y.trained(0, 0, 5));
    }

    @Sentence(of = "III", says = "TRAINED for h hours: a MARK is better by G h / (h and H), downwards, with gain G in H")
    private static void better() {
        int[][] gains = {{30, 10}, {1, 1}, {1, 999}, {0, 1}, {99999, 999}, {99999, 1}, {99998, 500}};
        for (int[] gain : gains) {
            TenTrials x = Check.told("event run base 0 line 1 by 1;" + FIELD + "athlete;mark 0 0 99999;mark 0 1 0;"
                + "gain 0 0 " + gain[0] + " in " + gain[1] + ";gain 0 1 " + gain[0] + " in " + gain[1] + ";");
            for (int h : new int[] {0, 1, 2, 9, 10, 499, 500, 998, 999}) {
                int by = (int) ((long) gain[0] * h / (h + gain[1]));
                CHECK.due("a run, " + gain[0] + " in " + gain[1] + ", " + h + " hours", 99999 - by, x.trained(0, 0, h));
                CHECK.due("a field, " + gain[0] + " in " + gain[1] + ", " + h + " hours", by, x.trained(0, 1, h));
            }
        }
        TenTrials x = Check.told(FIELD + "athlete;mark 0 0 0;gain 0 0 99999 in 999;");
        CHECK.due("half of an odd gain", 49999, x.trained(0, 0, 999));
        CHECK.due("the first hour", 99, x.trained(0, 0, 1));    // 99999 / 1000
    }

    @Sentence(of = "III", says = "(without a gain, a MARK: as it is);")
    private static void withoutGain() {
        TenTrials x = Check.told(FIELD + "athlete;athlete;athlete;mark 0 0 77;gain 1 0 9 in 9;mark 2 0 77;gain 2 0 0 in 1;");
        for (int h : new int[] {0, 1, 999}) {
            CHECK.due("a mark without a gain", 77, x.trained(0, 0, h));
            CHECK.due("a gain without a mark", -1, x.trained(1, 0, h));
            CHECK.due("a gain of nothing", 77, x.trained(2, 0, h));
        }
    }

    @Sentence(of = "III", says = "no better than 0, 99999.")
    private static void noBetter() {
        TenTrials x = Check.told("event run base 200 line 1 by 1;" + FIELD + "athlete;athlete;"
            + "mark 0 0 5;mark 0 1 99994;gain 0 0 10 in 1;gain 0 1 10 in 1;mark 1 0 0;mark 1 1 99999;gain 1 0 99999 in 1;gain 1 1 99999 in 1;");
        CHECK.due("just 0", 0, x.trained(0, 0, 1));
        CHECK.due("just 99999", 99999, x.trained(0, 1, 1));
        CHECK.due("one below 0 would be", 0, x.trained(0, 0, 2));
        CHECK.due("one above 99999 would be", 99999, x.trained(0, 1, 2));
        CHECK.due("0 itself", 0, x.trained(1, 0, 999));
        CHECK.due("99999 itself", 99999, x.trained(1, 1, 999));
        CHECK.due("what it is not better by is no act", 0, x.trains(1, 0, 999));
        CHECK.due("acts", 0, x.count(4));
    }

    @Sentence(of = "26", says = {"What a gain is, what 0: G, 1: H.", "NONE: there is none;"})
    private static void gains() {
        TenTrials x = Check.told(TEXT);
        int[][] rows = {{0, 0, 0, 30}, {0, 0, 1, 10}, {0, 1, 0, 20}, {0, 1, 1, 5}, {0, 2, 0, 99}, {0, 2, 1, 9},
            {1, 0, 0, -1}, {1, 0, 1, -1}, {1, 0, 2, -2}, {0, 0, 2, -2}, {0, 0, -1, -2}, {1, 0, -1, -2}, {2, 0, 0, -2}, {0, 3, 0, -2}};
        for (int[] row : rows) {
            CHECK.due("gains(" + row[0] + ", " + row[1] + ", " + row[2] + ")", row[3], x.gains(row[0], row[1], row[2]));
        }
        TenTrials y = Check.told("event run base 2 line 1 by 1;athlete;gain 0 0 5 in 6;gain 0 0 0 in 9;");
        CHECK.due("of two the last counts", 0, y.gains(0, 0, 0));
        CHECK.due("its hours", 9, y.gains(0, 0, 1));
    }

    @Sentence(of = "27", says = {"The EVENT in which an ATHLETE has the most POINTS more by h (1 .. 999) hours in it alone (of like ones the least number).", "NONE: in none any;"})
    private static void pays() {
        TenTrials t = Check.told(TEXT);
        CHECK.due("pays(0, 1)", 1, t.pays(0, 1));
        CHECK.due("pays(0, 999)", 1, t.pays(0, 999));
        CHECK.due("pays(1, 5)", -1, t.pays(1, 5));
        CHECK.due("pays(0, 0)", -2, t.pays(0, 0));
        CHECK.due("pays(0, 1000)", -2, t.pays(0, 1000));
        CHECK.due("pays(1, 1000), where none pays", -2, t.pays(1, 1000));
        TenTrials x = Check.told(FIELD.repeat(3) + "athlete;mark 0 0 5;mark 0 1 5;mark 0 2 5;gain 0 1 10 in 1;gain 0 2 10 in 1;gain 0 0 10 in 20;");
        CHECK.due("of like ones the least", 1, x.pays(0, 1));
        x.gain(0, 2, 12, 1);
        CHECK.due("one point more", 2, x.pays(0, 1));
        x.gain(0, 1, 1, 1);
        x.gain(0, 2, 1, 1);
        CHECK.due("in none any", -1, x.pays(0, 1));
        CHECK.due("later one", 0, x.pays(0, 20));
        CHECK.due("one point more is some", 0, x.pays(0, 3));
        CHECK.due("half a point is none", -1, x.pays(0, 2));
        // A better MARK that is worth no more pays nothing.
        CHECK.due("beyond 2000", -1, Check.told(FIELD + "athlete;mark 0 0 2000;gain 0 0 500 in 1;").pays(0, 999));
        CHECK.due("without events", -1, Check.told("athlete;").pays(0, 5));
    }

    @Sentence(of = "44", says = "POINTS more that the h-th hour (1 .. 999) of TRAINING in an EVENT gives an ATHLETE (0 without a MARK).")
    private static void hour() {
        TenTrials x = Check.told(TEXT);
        int[][] rows = {{0, 0, 1, 2}, {0, 0, 2, 3}, {0, 0, 3, 1}, {0, 1, 1, 6}, {0, 1, 2, 4}, {0, 1, 6, 0}, {0, 2, 1, 0}, {0, 2, 999, 0},
            {1, 0, 1, 0}, {1, 0, 999, 0}, {0, 0, 0, -2}, {0, 0, 1000, -2}, {1, 0, 0, -2}, {1, 0, 1000, -2}, {0, 0, 999, 0},
            {2, 0, 1, -2}, {-1, 0, 1, -2}, {0, 3, 1, -2}, {0, -1, 1, -2}};
        for (int[] row : rows) {
            CHECK.due("hour(" + row[0] + ", " + row[1] + ", " + row[2] + ")", row[3], x.hour(row[0], row[1], row[2]));
        }
        // 999 h / (h and 999): 499 at 998 hours, 499.5 at 999; 1000 h / (h and 999): 499.7, 500.
        TenTrials y = Check.told(FIELD.repeat(2) + "athlete;mark 0 0 0;mark 0 1 0;gain 0 0 999 in 999;gain 0 1 1000 in 999;");
        CHECK.due("the last hour without a point", 0, y.hour(0, 0, 999));
        CHECK.due("the last hour with a point", 1, y.hour(0, 1, 999));
        CHECK.due("a mark without a gain", 0, Check.told(FIELD + "athlete;mark 0 0 5;").hour(0, 0, 1));
        // All hours together give what all of them give.
        TenTrials z = Check.told("event field base 0 square 1 by 9;athlete;mark 0 0 30;gain 0 0 50 in 7;");
        int sum = 0;
        for (int h = 1; h <= 200; h++) {
            sum += z.hour(0, 0, h);
        }
        CHECK.due("200 hours together", z.points(0, z.trained(0, 0, 200)) - 100, sum);
    }

    @Sentence(of = "28", says = "SPREAD of n (0 .. 60) hours for an ATHLETE: POINTS of all EVENTS then (e NONE), or the hours for an EVENT.")
    private static void spread() {
        TenTrials x = Check.told(TEXT);
        // By n: POINTS, then the hours for each EVENT.
        int[][] rows = {{70, 0, 0, 0}, {76, 0, 1, 0}, {80, 0, 2, 0}, {84, 0, 3, 0}, {86, 0, 4, 0}, {90, 0, 5, 0}, {92, 1, 5, 0}, {95, 2, 5, 0}};
        for (int n = 0; n < rows.length; n++) {
            for (int e = -1; e < 3; e++) {
                CHECK.due("spread(0, " + n + ", " + e + ")", rows[n][e + 1], x.spread(0, n, e));
            }
        }
        CHECK.due("60 hours", 60, x.spread(1, 60, 2));
        CHECK.due("61 hours", -2, x.spread(0, 61, -1));
        CHECK.due("-1 hours", -2, x.spread(0, -1, -1));
        CHECK.due("spread(0, 5, 3)", -2, x.spread(0, 5, 3));
        CHECK.due("spread(0, 5, -2)", -2, x.spread(0, 5, -2));
        CHECK.due("spread(2, 5, 0)", -2, x.spread(2, 5, 0));
        CHECK.due("no bonus in it", 5, Check.told(FIELD + "athlete;mark 0 0 5;bonus 500 when 1=1;").spread(0, 0, -1));
        CHECK.stays("spread", 95, () -> Check.told(TEXT), y -> y.spread(0, 7, -1));
    }

    @Sentence(of = "III", says = "SPREAD of n hours: each EVENT is TRAINED for some of them, all n together (without EVENTS: none), so that POINTS of all EVENTS are most;")
    private static void spreadOfAll() {
        TenTrials x = Check.told(TEXT);
        for (int n = 0; n <= 60; n++) {
            CHECK.due("all " + n + " together", n, x.spread(0, n, 0) + x.spread(0, n, 1) + x.spread(0, n, 2));
        }
        TenTrials none = Check.told("athlete;");
        CHECK.due("without events", 0, none.spread(0, 0, -1));
        CHECK.due("60 without events", 0, none.spread(0, 60, -1));
        CHECK.due("no such event", -2, none.spread(0, 60, 0));
        CHECK.due("one event has all", 60, Check.told(FIELD + "athlete;").spread(0, 60, 0));
        TenTrials gone = Check.told(TEXT);
        CHECK.due("with events", 95, gone.spread(0, 7, -1));
        Check.tell(gone, "athlete;");
        CHECK.due("without them any more", 0, gone.spread(0, 7, -1));
        CHECK.due("no hours come to 1", -1, gone.hours(0, 1));
        CHECK.due("nor do all together", 0, gone.squad(7, -1));
        // Hours are all told out to ATHLETES, be there EVENTS or not.
        gone.athlete();
        CHECK.due("squad without events, the first", 0, gone.squad(7, 0));
        CHECK.due("squad without events, the last", 7, gone.squad(7, 1));
        // A threshold of three hours that pays more than an hour at a time.
        TenTrials y = Check.told(FIELD + "event field base 0 table 13:50;athlete;mark 0 0 0;mark 0 1 10;gain 0 0 10 in 9;gain 0 1 7 in 3;");
        CHECK.due("two hours", 1, y.spread(0, 2, -1));
        CHECK.due("two hours in the first", 1, y.spread(0, 2, 0));
        CHECK.due("three hours", 50, y.spread(0, 3, -1));
        CHECK.due("three hours in the second", 3, y.spread(0, 3, 1));
        // Ten EVENTS with six hours each: 6 1000 / 12 more in each, and no better spread.
        StringBuilder ten = new StringBuilder(FIELD.repeat(10) + "athlete;");
        for (int e = 0; e < 10; e++) {
            ten.append("mark 0 ").append(e).append(" 0;gain 0 ").append(e).append(" 1000 in 6;");
        }
        TenTrials z = Check.told(ten.toString());
        CHECK.due("ten times 500", 5000, z.spread(0, 60, -1));
        for (int e = 0; e < 10; e++) {
            CHECK.due("six hours for " + e, 6, z.spread(0, 60, e));
        }
        CHECK.due("one hour less is the first one's", 5, z.spread(0, 59, 0));
    }

    @Sentence(of = "III", says = "of like ones EVENT by EVENT (0 first) the fewest hours.")
    private static void spreadOfLikeOnes() {
        TenTrials x = Check.told(TEXT);
        CHECK.due("nothing to win", 0, x.spread(1, 7, -1));
        CHECK.due("the fewest for the first", 0, x.spread(1, 7, 0));
        CHECK.due("and for the second", 0, x.spread(1, 7, 1));
        CHECK.due("all hours are spread", 7, x.spread(1, 7, 2));
        // Two alike, one hour: the later one has it; a third one without a gain has what is over.
        TenTrials y = Check.told(FIELD.repeat(3) + "athlete;mark 0 0 0;mark 0 1 0;gain 0 0 2 in 1;gain 0 1 2 in 1;");
        int[][] rows = {{0, 0, 0, 0}, {1, 0, 1, 0}, {2, 1, 1, 0}, {2, 1, 1, 1}, {2, 1, 1, 58}};
        int[] hours = {0, 1, 2, 3, 60};
        for (int i = 0; i < hours.length; i++) {
            for (int e = -1; e < 3; e++) {
                CHECK.due("spread(0, " + hours[i] + ", " + e + ")", rows[i][e + 1], y.spread(0, hours[i], e));
            }
        }
    }

    @Sentence(of = "29", says = {"The fewest hours (0 .. 60) by whose SPREAD an ATHLETE has n (0 .. 99999) POINTS or more in all EVENTS.", "NONE: more;"})
    private static void hours() {
        TenTrials x = Check.told(TEXT);
        int[][] rows = {{0, 0}, {70, 0}, {71, 1}, {76, 1}, {77, 2}, {90, 5}, {91, 6}, {95, 7}, {99999, -1}, {100000, -2}, {-1, -2}};
        for (int[] row : rows) {
            CHECK.due("hours(0, " + row[0] + ")", row[1], x.hours(0, row[0]));
        }
        CHECK.due("hours(1, 0)", 0, x.hours(1, 0));
        CHECK.due("hours(1, 1)", -1, x.hours(1, 1));
        CHECK.due("hours(2, 0)", -2, x.hours(2, 0));
        TenTrials y = Check.told(FIELD + "athlete;mark 0 0 0;gain 0 0 120 in 60;bonus 500 when 1=1;");
        CHECK.due("60 hours at most", 60, y.hours(0, 60));
        CHECK.due("59 hours", 59, y.hours(0, 59));      // 120 59 / 119 = 59.5
        CHECK.due("61 hours would do", -1, y.hours(0, 61));
        TenTrials none = Check.told("athlete;");
        CHECK.due("0 without events", 0, none.hours(0, 0));
        CHECK.due("1 without events", -1, none.hours(0, 1));
        TenTrials ten = Check.told(FIELD.repeat(10) + "athlete;");
        for (int e = 0; e < 10; e++) {
            ten.sets(0, e, 2000);
        }
        CHECK.due("as many as there can be", 0, ten.hours(0, 20000));
        CHECK.due("one more", -1, ten.hours(0, 20001));
    }

    @Sentence(of = "45", says = {"n (0 .. 60) hours for all ATHLETES: each has some of them in a SPREAD, all n together (without ATHLETES: none), so that POINTS of all are most;",
        "of like ones ATHLETE by ATHLETE (0 first) the fewest hours:", "POINTS of all (a NONE), or the hours of an ATHLETE."})
    private static void squad() {
        // More POINTS by hours: athlete 0: 0 2 5 6 8 10; athlete 1: 0 5 10 13 17 20 22 24; athlete 2: none.
        TenTrials x = Check.told("event run base 200 line 1 by 1;athlete;athlete;athlete;mark 0 0 150;gain 0 0 30 in 10;"
            + "mark 1 0 150;gain 1 0 60 in 10;bonus 9 when 1=1;");
        int[][] rows = {{100, 0, 0, 0}, {105, 0, 1, 0}, {110, 0, 2, 0}, {113, 0, 3, 0}, {117, 0, 4, 0}, {120, 0, 5, 0}, {122, 0, 6, 0}, {125, 2, 5, 0}};
        for (int n = 0; n < rows.length; n++) {
            for (int a = -1; a < 3; a++) {
                CHECK.due("squad(" + n + ", " + a + ")", rows[n][a + 1], x.squad(n, a));
            }
        }
        CHECK.due("squad(61, -1)", -2, x.squad(61, -1));
        CHECK.due("squad(-1, -1)", -2, x.squad(-1, -1));
        CHECK.due("squad(5, 3)", -2, x.squad(5, 3));
        CHECK.due("squad(5, -2)", -2, x.squad(5, -2));
        for (int n = 0; n <= 60; n++) {
            CHECK.due("all " + n + " together", n, x.squad(n, 0) + x.squad(n, 1) + x.squad(n, 2));
        }
        TenTrials none = Check.told(FIELD);
        CHECK.due("without athletes", 0, none.squad(60, -1));
        CHECK.due("no such athlete", -2, none.squad(60, 0));
        CHECK.due("below none", -2, none.squad(60, -2));
        TenTrials gone = Check.told(FIELD + "athlete;mark 0 0 5;");
        CHECK.due("with an athlete", 5, gone.squad(60, -1));
        Check.tell(gone, FIELD);
        CHECK.due("without any more", 0, gone.squad(60, -1));
        TenTrials still = Check.told("event run base 200 line 1 by 1;athlete;athlete;");
        CHECK.due("nothing to win, the first", 0, still.squad(9, 0));
        CHECK.due("nothing to win, the last", 9, still.squad(9, 1));
        CHECK.due("one alone", 60, Check.told(FIELD + "athlete;").squad(60, 0));
    }

    @Sentence(of = "45", says = "each has some of them in a SPREAD,")
    private static void squadOverEvents() {
        // Of each ATHLETE one EVENT of the two pays: 7 1000 / 14 more in seven hours.
        StringBuilder text = new StringBuilder(FIELD.repeat(2) + "athlete;".repeat(8));
        for (int a = 0; a < 8; a++) {
            text.append("mark ").append(a).append(' ').append(a % 2).append(" 100;gain ").append(a).append(' ').append(a % 2).append(" 1000 in 7;");
        }
        TenTrials x = Check.told(text.toString());
        CHECK.due("seven hours each", 800 + 8 * 500, x.squad(56, -1));
        for (int a = 0; a < 8; a++) {
            CHECK.due("seven hours for " + a, 7, x.squad(56, a));
        }
        CHECK.due("no hours", 800, x.squad(0, -1));
        CHECK.due("one hour", 925, x.squad(1, -1));
        CHECK.due("it is the last one's", 1, x.squad(1, 7));
        CHECK.due("and not the first one's", 0, x.squad(1, 0));
        // Each one's hours go to where they pay most: with one ATHLETE squad is its SPREAD.
        TenTrials y = Check.told("event run base 200 line 1 by 1;event field base 0 line 2 by 1;athlete;mark 0 0 150;mark 0 1 10;gain 0 0 30 in 10;gain 0 1 20 in 5;");
        for (int n = 0; n <= 60; n++) {
            CHECK.due("squad of one, " + n, y.spread(0, n, -1), y.squad(n, -1));
        }
    }
}
