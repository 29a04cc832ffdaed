/** Promises 33 to 38: what changes, and how it is undone. */
public final class ActsTest {
    private static final Check CHECK = new Check();
    private static final String TEXT = "event run base 200 line 1 by 1;event field base 0 line 2 by 1;athlete;athlete;"
        + "mark 0 0 150;gain 0 0 30 in 10;";

    public static void main(String[] args) {
        sets();
        athlete();
        gain();
        trains();
        tie();
        undo();
        onlyTheLatestTen();
        undoOfAnAthlete();
        CHECK.end("ActsTest");
    }

    private static void sets() {
        TenTrials x = Check.told(TEXT);
        CHECK.due("another mark", 150, x.sets(0, 0, 140));
        CHECK.due("mark", 140, x.mark(0, 0));
        CHECK.due("an act", 1, x.count(4));
        CHECK.due("the same mark", 140, x.sets(0, 0, 140));
        CHECK.due("no act", 1, x.count(4));
        CHECK.due("none where there is none", -1, x.sets(1, 1, -1));
        CHECK.due("no act either", 1, x.count(4));
        CHECK.due("none", 140, x.sets(0, 0, -1));
        CHECK.due("mark", -1, x.mark(0, 0));
        CHECK.due("0", -1, x.sets(0, 0, 0));
        CHECK.due("99999", 0, x.sets(0, 0, 99999));
        CHECK.due("acts", 4, x.count(4));
        int[] refused = {x.sets(0, 0, -2), x.sets(0, 0, 100000), x.sets(2, 0, 5), x.sets(-1, 0, 5), x.sets(0, 2, 5), x.sets(0, -1, 5)};
        for (int answer : refused) {
            CHECK.due("sets of what is not there", -2, answer);
        }
        CHECK.due("no acts", 4, x.count(4));
    }

    private static void athlete() {
        TenTrials x = Check.told(TEXT);
        for (int a = 2; a < 8; a++) {
            CHECK.due("athlete()", a, x.athlete());
            CHECK.due("without marks", 0, x.of(a, 3));
            CHECK.due("without gains", -1, x.gains(a, 0, 0));
        }
        CHECK.due("a ninth", -5, x.athlete());
        CHECK.due("athletes", 8, x.count(1));
        CHECK.due("acts", 6, x.count(4));
    }

    private static void gain() {
        TenTrials x = Check.told(TEXT);
        CHECK.due("another one", 30, x.gain(0, 0, 31, 10));
        CHECK.due("other hours", 31, x.gain(0, 0, 31, 11));
        CHECK.due("the same", 31, x.gain(0, 0, 31, 11));
        CHECK.due("a first one", -1, x.gain(1, 1, 0, 1));
        CHECK.due("the bounds", 0, x.gain(1, 1, 99999, 999));
        CHECK.due("acts", 4, x.count(4));
        CHECK.due("G", 31, x.gains(0, 0, 0));
        CHECK.due("H", 11, x.gains(0, 0, 1));
        int[] refused = {x.gain(0, 0, -1, 5), x.gain(0, 0, 100000, 5), x.gain(0, 0, 5, 0), x.gain(0, 0, 5, 1000),
            x.gain(2, 0, 5, 5), x.gain(-1, 0, 5, 5), x.gain(0, 2, 5, 5), x.gain(0, -1, 5, 5)};
        for (int answer : refused) {
            CHECK.due("gain of what is not there", -2, answer);
        }
        CHECK.due("undo", 3, x.undo());
        CHECK.due("G before", 0, x.gains(1, 1, 0));
        CHECK.due("undo", 2, x.undo());
        CHECK.due("none before", -1, x.gains(1, 1, 0));
        CHECK.due("none before, H", -1, x.gains(1, 1, 1));
        x.undo();
        x.undo();
        CHECK.due("the text's G", 30, x.gains(0, 0, 0));
        CHECK.due("the text's H", 10, x.gains(0, 0, 1));
    }

    private static void trains() {
        TenTrials x = Check.told(TEXT);
        CHECK.due("trains", 140, x.trains(0, 0, 5));
        CHECK.due("mark", 140, x.mark(0, 0));
        CHECK.due("once more", 130, x.trains(0, 0, 5));
        CHECK.due("acts", 2, x.count(4));
        CHECK.due("no hours", 130, x.trains(0, 0, 0));
        CHECK.due("no act", 2, x.count(4));
        CHECK.due("no mark", -1, x.trains(0, 1, 5));
        x.sets(1, 1, 9);
        CHECK.due("no gain", 9, x.trains(1, 1, 5));
        CHECK.due("no acts", 3, x.count(4));
        int[] refused = {x.trains(0, 0, -1), x.trains(0, 0, 1000), x.trains(2, 0, 5), x.trains(-1, 0, 5), x.trains(0, 2, 5),
            x.trains(0, -1, 5), x.trains(1, 0, 1000)};
        for (int answer : refused) {
            CHECK.due("trains of what is not there", -2, answer);
        }
        x.undo();
        CHECK.due("undo", 1, x.undo());
        CHECK.due("mark before", 140, x.mark(0, 0));
    }

    private static void tie() {
        TenTrials x = Check.told(TEXT);
        CHECK.due("tie(0)", 0, x.tie(0));
        CHECK.due("no act", 0, x.count(4));
        CHECK.due("tie(2)", 0, x.tie(2));
        CHECK.due("tie(1)", 2, x.tie(1));
        CHECK.due("tie(1)", 1, x.tie(1));
        CHECK.due("acts", 2, x.count(4));
        CHECK.due("tie(3)", -2, x.tie(3));
        CHECK.due("tie(-1)", -2, x.tie(-1));
        CHECK.due("undo", 1, x.undo());
        CHECK.due("tie", 2, x.count(3));
    }

    private static void undo() {
        TenTrials x = Check.told(TEXT);
        CHECK.due("nothing to undo", -1, x.undo());
        x.sets(0, 0, 100);
        x.tie(1);
        x.gain(0, 0, 5, 5);
        x.athlete();
        x.trains(0, 0, 5);
        CHECK.due("undo of trains", 4, x.undo());
        CHECK.due("mark", 100, x.mark(0, 0));
        CHECK.due("undo of athlete", 3, x.undo());
        CHECK.due("athletes", 2, x.count(1));
        CHECK.due("undo of gain", 2, x.undo());
        CHECK.due("gain", 30, x.gains(0, 0, 0));
        CHECK.due("a new act in between", 10, x.gains(0, 0, 1));
        x.sets(1, 0, 7);
        CHECK.due("undo of it", 2, x.undo());
        CHECK.due("mark", -1, x.mark(1, 0));
        CHECK.due("undo of tie", 1, x.undo());
        CHECK.due("tie", 0, x.count(3));
        CHECK.due("undo of sets", 0, x.undo());
        CHECK.due("mark", 150, x.mark(0, 0));
        CHECK.due("none is left", -1, x.undo());
    }

    private static void onlyTheLatestTen() {
        TenTrials x = Check.told(TEXT);
        for (int m = 1; m <= 23; m++) {
            x.sets(0, 0, m);
            CHECK.due("acts", Math.min(m, 10), x.count(4));
        }
        for (int left = 9; left >= 0; left--) {
            CHECK.due("undo", left, x.undo());
            CHECK.due("mark", 13 + left, x.mark(0, 0));
        }
        CHECK.due("no eleventh", -1, x.undo());
        CHECK.due("mark", 13, x.mark(0, 0));
    }

    private static void undoOfAnAthlete() {
        TenTrials x = Check.told(TEXT);
        x.athlete();
        x.sets(2, 0, 5);
        x.gain(2, 1, 5, 5);
        x.undo();
        x.undo();
        CHECK.due("undo", 0, x.undo());
        CHECK.due("no such athlete", -2, x.mark(2, 0));
        CHECK.due("again", 2, x.athlete());
        CHECK.due("without marks", -1, x.mark(2, 0));
        CHECK.due("without gains", -1, x.gains(2, 1, 0));
        Check.tell(x, "event run base 200 line 1 by 1;");
        CHECK.due("first of another text", 0, x.athlete());
        CHECK.due("without the old one's marks", -1, x.mark(0, 0));
        CHECK.due("without the old one's gains", -1, x.gains(0, 0, 0));
        Check.tell(x, "event run base 200 line 1 by 1;athlete;");
        CHECK.due("a text's athlete without the old one's marks", -1, x.mark(0, 0));
    }
}
