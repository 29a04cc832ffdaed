import java.util.Map;

/** Promises 1 to 6: a new object, the tape, the text as a whole, its fault, what is counted. */
public final class TapeTest {
    private static final Check CHECK = new Check();

    public static void main(String[] args) throws IllegalAccessException {
        CHECK.run(TapeTest.class);
    }

    @Sentence(of = "1", says = "No TEXT.")
    private static void newObject() {
        TenTrials x = new TenTrials();
        for (int what = 0; what <= 7; what++) {
            CHECK.due("count(" + what + ") of a new object", 0, x.count(what));
        }
        CHECK.due("NONE", -1, TenTrials.NONE);
        CHECK.due("octet(0) of a new object", -1, x.octet(0));
        CHECK.due("undo() of a new object", -1, x.undo());
        int[] answers = {
            x.event(0, 0), x.points(0, 0), x.worst(0, 0), x.top(0), x.same(0, 0, 0), x.step(0, 0), x.mark(0, 0),
            x.worth(0, 0), x.of(0, 0), x.holds(0, 0), x.bonus(0), x.place(0), x.rank(0), x.leads(0), x.dream(),
            x.need(0, 0), x.needIn(0, 0, 0), x.pass(0, 0, 1), x.trained(0, 0, 0), x.gains(0, 0, 0), x.pays(0, 1),
            x.spread(0, 0, -1), x.hours(0, 0), x.meet(0, 0), x.met(0, 0), x.odds(0, 1, 0), x.sets(0, 0, 0),
            x.athlete(), x.gain(0, 0, 0, 1), x.trains(0, 0, 0), x.tie(0), x.tell(), x.card(0), x.kth(0, 0),
            x.behind(0), x.hour(0, 0, 1), x.squad(0, -1), x.close(), x.team(0), x.kinds(0, 0, 1), x.lent(0, 0, 0),
            x.even(0)};
        for (int i = 0; i < answers.length; i++) {
            CHECK.due("call " + i + " without a text", -2, answers[i]);
        }
        CHECK.due("a refused call leaves no text", 0, x.count(5));
        TenTrials other = Check.told("athlete;");
        CHECK.due("of another object nothing is seen", 0, new TenTrials().count(1));
        CHECK.due("and the other one keeps it", 1, other.count(1));
    }

    @Sentence(of = "2", says = "Twenty bytes come behind the TAPE, four of each number, the highest first: how many it has;")
    private static void feeding() {
        TenTrials x = new TenTrials();
        for (int n = 20; n <= 1200; n += 20) {
            CHECK.due("feed to " + n, n, x.feed(0, -1, 5, 2147483647, -2147483648));
            CHECK.due("count(6)", n, x.count(6));
        }
        // "athl" "ete;" "tie " "best" " ;  "
        TenTrials y = new TenTrials();
        CHECK.due("feed", 20, y.feed(0x6174686c, 0x6574653b, 0x74696520, 0x62657374, 0x203b2020));
        CHECK.due("text()", 2, y.text());
        CHECK.due("tie best was read", 1, y.count(3));
        y.feed(0x6c687461, 0x20202020, 0x20202020, 0x20202020, 0x20202020);
        CHECK.due("turned round it is no text", -4, y.text());
        y.feed(0x6174686c, 0x6574653b, 0x61746878, 0x78787878, 0x78787878);
        y.end(11);
        CHECK.due("behind what the tape has", 31, y.feed(0x6c657465, 0x3b202020, 0x20202020, 0x20202020, 0x2020203b));
        y.end(30);
        CHECK.due("the parts are one text", 2, y.text());
    }

    @Sentence(of = "2", says = "how many it has;")
    private static void bytesAboveTheLetters() {
        // Numbers below 0 and bytes above 127 are bytes like others: tokens that are none, each in its place.
        int[][] numbers = {{-1, 0}, {-2147483648, 0}, {0x20202080, 3}, {0x2020ff20, 2}, {0x20800a20, 1}, {0x0a0a0a00, 3}, {2147483647, 0}};
        for (int[] number : numbers) {
            TenTrials x = new TenTrials();
            CHECK.due("feed", 20, x.feed(0x20202020, 0x20202020, 0x20202020, 0x20202020, number[0]));
            CHECK.due("text() of " + number[0], -4, x.text());
            CHECK.due("its fault", 1, x.fault(0));
            CHECK.due("its place", 16 + number[1], x.fault(1));
        }
    }

    @Sentence(of = "2", says = "NONE, and none come, if it would have more than 1200.")
    private static void feedingTooMuch() {
        CHECK.stays("feed on a full tape", -1, States::full, x -> x.feed(0x61616161, 0, -1, 0x3b3b3b3b, 7));
        CHECK.stays("feed on 1199 bytes", -1, () -> filled(1199), x -> x.feed(0x61616161, 0, -1, 0x3b3b3b3b, 7));
        CHECK.stays("feed on 1181 bytes", -1, () -> filled(1181), x -> x.feed(0x61616161, 0, -1, 0x3b3b3b3b, 7));
        TenTrials x = filled(1180);
        CHECK.due("feed on 1180 bytes", 1200, x.feed(0x20202020, 0x20202020, 0x20202020, 0x20202020, 0x2020203b));
        CHECK.due("all 1200 are read", -4, x.text());
        CHECK.due("the last one is at 1199", 1199, x.fault(1));
        CHECK.due("there is room again", 20, x.feed(0, 0, 0, 0, 0));
    }

    /** So many bytes on the tape, with one athlete. */
    private static TenTrials filled(int n) {
        TenTrials x = States.full();
        x.end(n);
        return x;
    }

    @Sentence(of = "3", says = "The TAPE has its first n bytes alone: n;")
    private static void ending() {
        for (int n = 0; n <= 20; n++) {
            TenTrials x = new TenTrials();
            x.feed(0x6174686c, 0x6574653b, 0x6174686c, 0x6574653b, 0x20202020);
            CHECK.due("end(" + n + ")", n, x.end(n));
            CHECK.due("count(6)", n, x.count(6));
            CHECK.due("text() of " + n + " bytes", n == 0 ? 0 : n == 8 ? 1 : n >= 16 ? 2 : -4, x.text());
            // A word that is cut can't stand there: its first byte is the place; a whole one lacks its end.
            int place = n == 7 || n == 15 ? n : n < 7 ? 0 : 8;
            CHECK.due("its place", n == 0 || n == 8 || n >= 16 ? -1 : place, x.fault(1));
        }
        TenTrials empty = new TenTrials();
        CHECK.due("end(0) of an empty tape", 0, empty.end(0));
        CHECK.due("it is still empty", 0, empty.count(6));
    }

    @Sentence(of = "3", says = "NONE, and nothing happens, if it has not so many, or n is below 0.")
    private static void endingWrongly() {
        CHECK.stays("end(17) of 16 bytes", -1, States::small, x -> x.end(17));
        CHECK.stays("end(-1)", -1, States::small, x -> x.end(-1));
        CHECK.stays("end of the greatest number", -1, States::small, x -> x.end(2147483647));
        CHECK.stays("end of the least number", -1, States::small, x -> x.end(-2147483648));
        CHECK.stays("end(1201) of a full tape", -1, States::full, x -> x.end(1201));
        CHECK.stays("end(1200) of a full tape", 1200, States::full, x -> x.end(1200));
        CHECK.stays("end(17) without a text", -1, States::untold, x -> x.end(17));
        TenTrials x = new TenTrials();
        CHECK.due("end(1) of nothing", -1, x.end(1));
        x.feed(0, 0, 0, 0, 0);
        x.end(8);
        CHECK.due("bytes that are gone do not come back", -1, x.end(9));
    }

    @Sentence(of = "4", says = "The TAPE (empty then) is the TEXT")
    private static void theTapeIsTheText() {
        TenTrials x = new TenTrials();
        CHECK.due("an empty text", 0, x.text());
        CHECK.due("there is a text", 1, x.count(5));
        CHECK.due("tell", 3, Check.tell(x, "event field base 0 line 1 by 1;athlete;mark 0 0 7;"));
        CHECK.due("the tape is empty", 0, x.count(6));
        CHECK.due("end(1) of it", -1, x.end(1));
        CHECK.due("its mark", 7, x.mark(0, 0));
        CHECK.due("the empty tape is a text, too", 0, x.text());
        CHECK.due("without events", 0, x.count(0));
        CHECK.due("without athletes", 0, x.count(1));
    }

    @Sentence(of = "4", says = "(in place of another; nothing can be undone; OUT stays): how many LINES.")
    private static void anotherText() {
        TenTrials x = States.small();
        String out = Check.out(x);
        CHECK.due("what could be undone", 5, x.count(4));
        x.end(0);
        CHECK.due("another text", 2, Check.tell(x, "event run base 8 line 7 by 6;athlete;"));
        int[] counts = {1, 1, 0, 0, 0, 1, 0, out.length()};
        for (int what = 0; what <= 7; what++) {
            CHECK.due("count(" + what + ")", counts[what], x.count(what));
        }
        CHECK.due("its base", 8, x.event(0, 1));
        CHECK.due("no spread of the old one", 0, x.event(0, 5));
        CHECK.due("no mark of the old one", -1, x.mark(0, 0));
        CHECK.due("no gain of the old one", -1, x.gains(0, 0, 0));
        CHECK.due("no bonus of the old one", -2, x.bonus(0));
        CHECK.due("undo", -1, x.undo());
        CHECK.due("OUT stays", 1, Check.out(x).equals(out) ? 1 : 0);
        CHECK.due("lines, not bytes or tokens", 4, Check.tell(x, "athlete;\n\nathlete;tie best; bonus 1 when 1=1;\n"));
    }

    @Sentence(of = "4", says = "-4: a FAULT (the TAPE is empty, all else stays).")
    private static void faultsChangeNothing() {
        String[] faulty = {"x", "athlete", "event run base 5 line 1 by 1;athlete;mark 0 0 5;bonus 5 when 1=1;tie none;tie none;",
            "event field base 7 table 1:1,2:2;".repeat(10) + "athlete;".repeat(8) + "mark 7 9 5;gain 7 9 5 in 5;bonus 9 when total > 5;tie none;#"};
        for (String text : faulty) {
            for (int state = 0; state < 4; state++) {
                int made = state;
                CHECK.due("a faulty text", -4, Check.tell(emptied(made), text));
                CHECK.same("a faulty text", butForFault(Picture.of(() -> emptied(made))), butForFault(Picture.of(() -> {
                    TenTrials x = emptied(made);
                    Check.tell(x, text);
                    return x;
                })));
            }
        }
    }

    private static Map<String, Integer> butForFault(Map<String, Integer> picture) {
        picture.remove("fault(0)");
        picture.remove("fault(1)");
        return picture;
    }

    private static TenTrials emptied(int state) {
        TenTrials x = state == 0 ? States.untold() : state == 1 ? States.empty() : state == 2 ? States.small() : States.full();
        x.end(0);
        return x;
    }

    @Sentence(of = "5", says = "Of the latest text(), what 0: its FAULT, 0 without, 1: its place (NONE without).")
    private static void faultOfTheLatest() {
        TenTrials x = new TenTrials();
        Check.tell(x, "athlete;tie 5;");
        CHECK.due("fault(0)", 1, x.fault(0));
        CHECK.due("fault(1)", 12, x.fault(1));
        CHECK.due("a fault is no text", 0, x.count(5));
        Check.tell(x, "tie best;tie none;");
        CHECK.due("fault(0) of the next", 3, x.fault(0));
        CHECK.due("fault(1) of the next", 9, x.fault(1));
        Check.tell(x, "athlete;");
        CHECK.due("fault(0) without", 0, x.fault(0));
        CHECK.due("fault(1) without", -1, x.fault(1));
        Check.tell(x, "bonus 0");
        x.tie(1);
        x.sets(0, 0, 5);
        x.feed(0, 0, 0, 0, 0);
        x.end(0);
        CHECK.due("other calls leave fault(0)", 2, x.fault(0));
        CHECK.due("other calls leave fault(1)", 6, x.fault(1));
        CHECK.due("an empty text", 0, x.text());
        CHECK.due("fault(0) of it", 0, x.fault(0));
        CHECK.due("fault(1) of it", -1, x.fault(1));
        Check.tell(x, "#");
        CHECK.due("a place of 0 is one", 0, x.fault(1));
    }

    @Sentence(of = "5", says = "NONE for another what, and ahead of any (what 1).")
    private static void faultOfNothing() {
        TenTrials x = new TenTrials();
        int[] others = {-1, 2, 3, 2147483647, -2147483648};
        for (int what : others) {
            CHECK.due("fault(" + what + ") ahead of any", -1, x.fault(what));
        }
        CHECK.due("fault(0) ahead of any", 0, x.fault(0));
        CHECK.due("fault(1) ahead of any", -1, x.fault(1));
        Check.tell(x, "bonus 0");
        for (int what : others) {
            CHECK.due("fault(" + what + ") of a faulty text", -1, x.fault(what));
        }
        Check.tell(x, "");
        for (int what : others) {
            CHECK.due("fault(" + what + ") of a text", -1, x.fault(what));
        }
    }

    @Sentence(of = "6", says = {"0 EVENTS, 1 ATHLETES, 2 bonus, 3 tie (0 none, 1 best, 2 wins), 4 acts that can be undone, 5 1 if there is a TEXT", "6 bytes of the TAPE, 7 of OUT."})
    private static void counting() {
        TenTrials x = Check.told("event run base 5 line 1 by 1;event field base 0 root 1 by 1;event field base 0 root 1 by 1;"
            + "athlete;athlete;tie wins;bonus 3 when 1 < 2;");
        int[] counts = {3, 2, 1, 2, 0, 1, 0, 0};
        for (int what = 0; what <= 7; what++) {
            CHECK.due("count(" + what + ")", counts[what], x.count(what));
        }
        x.athlete();
        x.tie(1);
        CHECK.due("athletes then", 3, x.count(1));
        CHECK.due("tie then", 1, x.count(3));
        CHECK.due("acts then", 2, x.count(4));
        x.feed(0, 0, 0, 0, 0);
        CHECK.due("tape", 20, x.count(6));
        x.tell();
        CHECK.due("OUT", 12, x.count(7));
        x.tie(0);
        CHECK.due("tie none", 0, x.count(3));
        int[] most = {10, 8, 4, 0, 10, 1, 1200, 56};
        for (int what = 0; what <= 7; what++) {
            CHECK.due("count(" + what + ") of the fullest", most[what], States.full().count(what));
        }
    }

    @Sentence(of = "6", says = "(all 0 without a TEXT),")
    private static void countingWithoutText() {
        TenTrials x = new TenTrials();
        Check.tell(x, "event run base 5 line 1 by 1;athlete;bonus 5 when 1=1;tie wins;#");
        Check.type(x, "athlete;");
        for (int what = 0; what <= 5; what++) {
            CHECK.due("count(" + what + ") without a text", 0, x.count(what));
        }
        CHECK.due("the tape has bytes nevertheless", 8, x.count(6));
    }

    @Sentence(of = "6", says = "NONE for others.")
    private static void countingOthers() {
        for (int what : new int[] {-1, 8, 9, -2, 2147483647, -2147483648}) {
            CHECK.due("count(" + what + ") without a text", -1, new TenTrials().count(what));
            CHECK.due("count(" + what + ")", -1, States.small().count(what));
        }
    }
}
