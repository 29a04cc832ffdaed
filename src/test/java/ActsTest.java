/** Promises 33 to 38 with the terms' part IV: what changes, and how it is undone. */
public final class ActsTest {
    private static final Check CHECK = new Check();
    private static final String TEXT = "event run base 200 line 1 by 1;event field base 0 line 2 by 1;athlete;athlete;"
        + "mark 0 0 150;gain 0 0 30 in 10;";

    public static void main(String[] args) throws IllegalAccessException {
        CHECK.run(ActsTest.class);
    }

    private static TenTrials told() {
        return Check.told(TEXT);
    }

    @Sentence(of = "33", says = "The MARK of an ATHLETE in an EVENT becomes m (NONE: none): what it was (NONE).")
    private static void sets() {
        TenTrials x = told();
        CHECK.due("another mark", 150, x.sets(0, 0, 140));
        CHECK.due("mark", 140, x.mark(0, 0));
        CHECK.due("none", 140, x.sets(0, 0, -1));
        CHECK.due("mark", -1, x.mark(0, 0));
        CHECK.due("0", -1, x.sets(0, 0, 0));
        CHECK.due("mark", 0, x.mark(0, 0));
        CHECK.due("99999", 0, x.sets(0, 0, 99999));
        CHECK.due("mark", 99999, x.mark(0, 0));
        CHECK.due("the other cells stay", -3, x.mark(0, 1) + x.mark(1, 0) + x.mark(1, 1));
        CHECK.due("the gain stays", 30, x.gains(0, 0, 0));
        CHECK.due("acts", 4, x.count(4));
        int[] refused = {x.sets(0, 0, -2), x.sets(0, 0, 100000), x.sets(2, 0, 5), x.sets(-1, 0, 5), x.sets(0, 2, 5), x.sets(0, -1, 5)};
        for (int answer : refused) {
            CHECK.due("sets of what is not there", -2, answer);
        }
        CHECK.due("no acts", 4, x.count(4));
        CHECK.due("no mark", 99999, x.mark(0, 0));
    }

    @Sentence(of = "34", says = "An ATHLETE more, without MARKS: its number.")
    private static void athlete() {
        TenTrials x = told();
        for (int a = 2; a < 8; a++) {
            CHECK.due("athlete()", a, x.athlete());
            CHECK.due("athletes", a + 1, x.count(1));
            CHECK.due("without marks", 0, x.of(a, 3));
            for (int e = 0; e < 2; e++) {
                CHECK.due("without a mark", -1, x.mark(a, e));
                CHECK.due("without a gain", -1, x.gains(a, e, 0));
                CHECK.due("without its hours", -1, x.gains(a, e, 1));
            }
        }
        CHECK.due("a ninth", -5, x.athlete());
        CHECK.due("athletes", 8, x.count(1));
        CHECK.due("acts", 6, x.count(4));
        CHECK.due("the first of an empty text", 0, Check.told("").athlete());
    }

    @Sentence(of = "34", says = "-5: there are 8;")
    private static void eightAthletes() {
        CHECK.stays("athlete() when all eight are told", -5, () -> Check.told("athlete;".repeat(8)), TenTrials::athlete);
        CHECK.stays("athlete() of a full contest", -5, States::full, TenTrials::athlete);
        TenTrials x = Check.told("athlete;".repeat(7));
        CHECK.due("an eighth", 7, x.athlete());
        CHECK.due("a ninth", -5, x.athlete());
        CHECK.due("undo", 0, x.undo());
        CHECK.due("an eighth again", 7, x.athlete());
    }

    @Sentence(of = "35", says = "A gain of an ATHLETE in an EVENT becomes G (0 .. 99999) in H (1 .. 999): what G was (NONE: there was none).")
    private static void gain() {
        TenTrials x = told();
        CHECK.due("another one", 30, x.gain(0, 0, 31, 10));
        CHECK.due("other hours", 31, x.gain(0, 0, 31, 11));
        CHECK.due("a first one", -1, x.gain(1, 1, 0, 1));
        CHECK.due("G of 0", 0, x.gains(1, 1, 0));
        CHECK.due("H of 1", 1, x.gains(1, 1, 1));
        CHECK.due("the other ends", 0, x.gain(1, 1, 99999, 999));
        CHECK.due("G of 99999", 99999, x.gains(1, 1, 0));
        CHECK.due("H of 999", 999, x.gains(1, 1, 1));
        CHECK.due("acts", 4, x.count(4));
        CHECK.due("G", 31, x.gains(0, 0, 0));
        CHECK.due("H", 11, x.gains(0, 0, 1));
        int[] refused = {x.gain(0, 0, -1, 5), x.gain(0, 0, 100000, 5), x.gain(0, 0, 5, 0), x.gain(0, 0, 5, 1000),
            x.gain(2, 0, 5, 5), x.gain(-1, 0, 5, 5), x.gain(0, 2, 5, 5), x.gain(0, -1, 5, 5)};
        for (int answer : refused) {
            CHECK.due("gain of what is not there", -2, answer);
        }
        CHECK.due("undo", 3, x.undo());
        CHECK.due("G before", 0, x.gains(1, 1, 0));
        CHECK.due("H before", 1, x.gains(1, 1, 1));
        CHECK.due("undo", 2, x.undo());
        CHECK.due("none before", -1, x.gains(1, 1, 0));
        CHECK.due("none before, H", -1, x.gains(1, 1, 1));
        x.undo();
        CHECK.due("H of the first act", 10, x.gains(0, 0, 1));
        x.undo();
        CHECK.due("the text's G", 30, x.gains(0, 0, 0));
        CHECK.due("the text's H", 10, x.gains(0, 0, 1));
    }

    @Sentence(of = "36", says = {"An ATHLETE is TRAINED in an EVENT for h (0 .. 999) hours: the MARK then.", "NONE: there is none;"})
    private static void trains() {
        TenTrials x = told();
        CHECK.due("trains", 140, x.trains(0, 0, 5));
        CHECK.due("mark", 140, x.mark(0, 0));
        CHECK.due("once more", 130, x.trains(0, 0, 5));
        CHECK.due("the gain stays", 30, x.gains(0, 0, 0));
        CHECK.due("the most hours", 101, x.trains(0, 0, 999));
        CHECK.due("no hours", 101, x.trains(0, 0, 0));
        CHECK.due("acts", 3, x.count(4));
        CHECK.due("no mark", -1, x.trains(0, 1, 5));
        CHECK.due("no mark, the most hours", -1, x.trains(1, 0, 999));
        CHECK.due("still none", -1, x.mark(0, 1));
        int[] refused = {x.trains(0, 0, -1), x.trains(0, 0, 1000), x.trains(2, 0, 5), x.trains(-1, 0, 5), x.trains(0, 2, 5),
            x.trains(0, -1, 5), x.trains(1, 0, 1000)};
        for (int answer : refused) {
            CHECK.due("trains of what is not there", -2, answer);
        }
        x.undo();
        CHECK.due("undo", 1, x.undo());
        CHECK.due("mark before", 140, x.mark(0, 0));
    }

    @Sentence(of = "37", says = "tie becomes another one (0 .. 2): what it was.")
    private static void tie() {
        TenTrials x = told();
        int was = 0;
        int acts = 0;
        for (int t : new int[] {0, 1, 0, 2, 1, 2, 2, 0, 0}) {
            CHECK.due("tie(" + t + ")", was, x.tie(t));
            acts += t == was ? 0 : 1;
            was = t;
            CHECK.due("tie", t, x.count(3));
            CHECK.due("acts", acts, x.count(4));
        }
        CHECK.due("tie(3)", -2, x.tie(3));
        CHECK.due("tie(-1)", -2, x.tie(-1));
        CHECK.due("undo", acts - 1, x.undo());
        CHECK.due("tie", 2, x.count(3));
        CHECK.due("tie of an empty text", 0, Check.told("").tie(2));
    }

    @Sentence(of = "IV", says = "ACTS: sets() of another MARK, athlete(), gain() of another one, trains() of hours by which some MARK becomes another one, tie() of another one.")
    private static void whatIsNoAct() {
        CHECK.stays("sets of the same mark", 140, States::small, x -> x.sets(0, 0, 140));
        CHECK.stays("sets of none, where there is none", -1, States::small, x -> x.sets(2, 0, -1));
        CHECK.stays("gain of the same one", 30, States::small, x -> x.gain(0, 0, 30, 10));
        CHECK.stays("gain of a new one's own", 8, States::small, x -> x.gain(2, 1, 8, 9));
        CHECK.stays("trains for no hours", 140, States::small, x -> x.trains(0, 0, 0));
        CHECK.stays("trains without a gain", 140, States::small, x -> x.trains(1, 0, 999));
        CHECK.stays("trains without a mark", -1, States::small, x -> x.trains(2, 1, 999));
        CHECK.stays("trains for too few hours", 9, States::small, x -> {
            // 4 1 / 5 is below 1.
            return x.trains(1, 1, 1);
        });
        CHECK.stays("tie of the same one", 1, States::small, x -> x.tie(1));
        CHECK.stays("a ninth athlete", -5, States::full, TenTrials::athlete);
        CHECK.stays("sets of the same mark, where ten acts are", 3011, States::full, x -> x.sets(3, 1, 3011));
        int acts = States.small().count(4);
        TenTrials sets = States.small();
        sets.sets(0, 0, 139);
        CHECK.due("one more is another mark", acts + 1, sets.count(4));
        TenTrials none = States.small();
        none.sets(0, 0, -1);
        CHECK.due("none is another one", acts + 1, none.count(4));
        TenTrials zero = States.small();
        zero.sets(2, 0, 0);
        CHECK.due("0 in place of none", acts + 1, zero.count(4));
        TenTrials gain = States.small();
        gain.gain(0, 0, 31, 10);
        gain.gain(0, 0, 31, 11);
        CHECK.due("another G, another H", acts + 2, gain.count(4));
        TenTrials first = States.small();
        first.gain(2, 0, 0, 1);
        CHECK.due("a gain of nothing in place of none", acts + 1, first.count(4));
        TenTrials trains = States.small();
        CHECK.due("4 2 / 6 is 1", 10, trains.trains(1, 1, 2));
        CHECK.due("a better mark", acts + 1, trains.count(4));
        TenTrials tie = States.small();
        tie.tie(0);
        CHECK.due("another tie", acts + 1, tie.count(4));
    }

    @Sentence(of = "38", says = {"The latest act is undone: how many can be.", "NONE: none."})
    private static void undo() {
        CHECK.due("nothing to undo", -1, told().undo());
        CHECK.stays("undo of nothing", -1, ActsTest::told, TenTrials::undo);
        CHECK.stays("undo without a text", -1, States::untold, TenTrials::undo);
        CHECK.same("the only athlete undone", Picture.of(() -> Check.told("")), Picture.of(() -> {
            TenTrials y = Check.told("");
            y.athlete();
            y.undo();
            return y;
        }));
        TenTrials x = told();
        x.sets(0, 0, 100);
        x.tie(1);
        x.gain(0, 0, 5, 5);
        x.athlete();
        x.trains(0, 0, 5);
        CHECK.due("undo of trains", 4, x.undo());
        CHECK.due("mark", 100, x.mark(0, 0));
        CHECK.due("undo of athlete", 3, x.undo());
        CHECK.due("athletes", 2, x.count(1));
        CHECK.due("undo of gain", 2, x.undo());
        CHECK.due("gain", 30, x.gains(0, 0, 0));
        CHECK.due("its hours", 10, x.gains(0, 0, 1));
        x.sets(1, 0, 7);
        CHECK.due("undo of an act in between", 2, x.undo());
        CHECK.due("mark", -1, x.mark(1, 0));
        CHECK.due("undo of tie", 1, x.undo());
        CHECK.due("tie", 0, x.count(3));
        CHECK.due("undo of sets", 0, x.undo());
        CHECK.due("mark", 150, x.mark(0, 0));
        CHECK.due("none is left", -1, x.undo());
        CHECK.due("and none again", -1, x.undo());
        CHECK.same("all acts and all undone", Picture.of(ActsTest::told), Picture.of(() -> {
            TenTrials y = told();
            y.athlete();
            y.sets(2, 1, 5);
            y.gain(2, 1, 5, 5);
            y.trains(2, 1, 9);
            y.tie(2);
            y.sets(0, 0, -1);
            for (int i = 0; i < 6; i++) {
                y.undo();
            }
            return y;
        }));
    }

    @Sentence(of = "IV", says = "The latest 10 can be undone one by one.")
    private static void onlyTheLatestTen() {
        TenTrials x = told();
        for (int m = 1; m <= 23; m++) {
            x.sets(0, 0, m);
            CHECK.due("acts", Math.min(m, 10), x.count(4));
        }
        for (int left = 9; left >= 0; left--) {
            CHECK.due("undo", left, x.undo());
            CHECK.due("mark", 13 + left, x.mark(0, 0));
        }
        CHECK.due("no eleventh", -1, x.undo());
        CHECK.due("mark", 13, x.mark(0, 0));
        // Ten just fit, of an eleventh the first is lost, whatever kinds they are.
        for (int more = 0; more < 2; more++) {
            TenTrials y = told();
            y.tie(1);
            y.athlete();
            y.gain(2, 0, 7, 7);
            y.sets(2, 0, 90);
            y.trains(2, 0, 7);
            for (int i = 0; i < 5 + more; i++) {
                y.gain(1, 1, 50 + i, 5);
            }
            CHECK.due("acts", 10, y.count(4));
            for (int left = 9; left >= 0; left--) {
                CHECK.due("undo", left, y.undo());
            }
            CHECK.due("no more", -1, y.undo());
            CHECK.due("the tie, whose act was the first", more, y.count(3));
            CHECK.due("the athlete is gone", 2, y.count(1));
        }
        // Of gains both numbers come back, in their order.
        TenTrials gains = told();
        for (int i = 1; i <= 13; i++) {
            gains.gain(1, 1, 50 + i, 100 * (i % 9 + 1) + i);
        }
        for (int i = 12; i >= 3; i--) {
            CHECK.due("undo", i - 3, gains.undo());
            CHECK.due("G before", 50 + i, gains.gains(1, 1, 0));
            CHECK.due("H before", 100 * (i % 9 + 1) + i, gains.gains(1, 1, 1));
        }
        CHECK.due("no more", -1, gains.undo());
        // An athlete whose act can't be undone any more stays.
        TenTrials z = told();
        z.athlete();
        for (int m = 0; m < 10; m++) {
            z.sets(2, 0, m);
        }
        for (int i = 0; i < 11; i++) {
            z.undo();
        }
        CHECK.due("it stays", 3, z.count(1));
        CHECK.due("its mark is none again", -1, z.mark(2, 0));
        // Ten undone and ten anew.
        for (int m = 1; m <= 10; m++) {
            z.sets(2, 0, m);
        }
        CHECK.due("acts anew", 10, z.count(4));
    }

    @Sentence(of = "34", says = "without MARKS")
    private static void undoOfAnAthlete() {
        TenTrials x = told();
        x.athlete();
        x.sets(2, 0, 5);
        x.gain(2, 1, 5, 5);
        x.undo();
        x.undo();
        CHECK.due("undo", 0, x.undo());
        CHECK.due("no such athlete", -2, x.mark(2, 0));
        CHECK.due("again", 2, x.athlete());
        CHECK.due("without marks", -1, x.mark(2, 0));
        CHECK.due("without gains", -1, x.gains(2, 1, 0));
        Check.tell(x, "event run base 200 line 1 by 1;");
        CHECK.due("first of another text", 0, x.athlete());
        CHECK.due("without the old one's marks", -1, x.mark(0, 0));
        CHECK.due("without the old one's gains", -1, x.gains(0, 0, 0));
        Check.tell(x, "event run base 200 line 1 by 1;athlete;");
        CHECK.due("a text's athlete without the old one's marks", -1, x.mark(0, 0));
    }
}
