/** Promises 1 to 6: a new object, the tape, the text as a whole, its fault, what is counted. */
public final class TapeTest {
    private static final Check CHECK = new Check();

    public static void main(String[] args) {
        newObject();
        everyCallWithoutText();
        feeding();
        byteOrder();
        ending();
        textAndWhatStays();
        faultOfTheLatest();
        counting();
        CHECK.end("TapeTest");
    }

    private static void newObject() {
        TenTrials x = new TenTrials();
        for (int what = 0; what <= 7; what++) {
            CHECK.due("count(" + what + ") of a new object", 0, x.count(what));
        }
        CHECK.due("NONE", -1, TenTrials.NONE);
        CHECK.due("octet(0) of a new object", -1, x.octet(0));
        CHECK.due("undo() of a new object", -1, x.undo());
    }

    private static void everyCallWithoutText() {
        TenTrials x = new TenTrials();
        int[] answers = {
            x.event(0, 0), x.points(0, 0), x.worst(0, 0), x.top(0), x.same(0, 0, 0), x.step(0, 0), x.mark(0, 0),
            x.worth(0, 0), x.of(0, 0), x.holds(0, 0), x.bonus(0), x.place(0), x.rank(0), x.leads(0), x.dream(),
            x.need(0, 0), x.needIn(0, 0, 0), x.pass(0, 0, 1), x.trained(0, 0, 0), x.gains(0, 0, 0), x.pays(0, 1),
            x.spread(0, 0, -1), x.hours(0, 0), x.meet(0, 0), x.met(0, 0), x.odds(0, 1, 0), x.sets(0, 0, 0),
            x.athlete(), x.gain(0, 0, 0, 1), x.trains(0, 0, 0), x.tie(0), x.tell(), x.card(0), x.kth(0, 0),
            x.behind(0), x.hour(0, 0, 1), x.squad(0, -1), x.close(), x.team(0), x.kinds(0, 0, 1), x.lent(0, 0, 0),
            x.even(0)};
        for (int i = 0; i < answers.length; i++) {
            CHECK.due("call " + i + " without a text", -2, answers[i]);
        }
        CHECK.due("a refused call leaves no text", 0, x.count(5));
    }

    private static void feeding() {
        TenTrials x = new TenTrials();
        for (int n = 20; n <= 1200; n += 20) {
            CHECK.due("feed to " + n, n, x.feed(0, -1, 5, 2147483647, -2147483648));
        }
        CHECK.due("feed above 1200", -1, x.feed(0, 0, 0, 0, 0));
        CHECK.due("nothing came", 1200, x.count(6));
        CHECK.due("end(1181)", 1181, x.end(1181));
        CHECK.due("feed to 1201", -1, x.feed(0, 0, 0, 0, 0));
        CHECK.due("still 1181", 1181, x.count(6));
        CHECK.due("end(1180)", 1180, x.end(1180));
        CHECK.due("feed to 1200", 1200, x.feed(0, 0, 0, 0, 0));
    }

    private static void byteOrder() {
        TenTrials x = new TenTrials();
        // "athl" "ete;" "tie " "best" " ;  "
        CHECK.due("feed", 20, x.feed(0x6174686c, 0x6574653b, 0x74696520, 0x62657374, 0x203b2020));
        CHECK.due("text()", 2, x.text());
        CHECK.due("tie best was read", 1, x.count(3));
        x.feed(0x6c687461, 0x20202020, 0x20202020, 0x20202020, 0x20202020);
        CHECK.due("turned round it is no text", -4, x.text());
    }

    private static void ending() {
        TenTrials x = new TenTrials();
        CHECK.due("end(0) of nothing", 0, x.end(0));
        CHECK.due("end(1) of nothing", -1, x.end(1));
        x.feed(0x6174686c, 0x6574653b, 0x78787878, 0x78787878, 0x78787878);
        CHECK.due("end(-1)", -1, x.end(-1));
        CHECK.due("end(21)", -1, x.end(21));
        CHECK.due("nothing happened", 20, x.count(6));
        CHECK.due("end(20)", 20, x.end(20));
        CHECK.due("end(8)", 8, x.end(8));
        CHECK.due("count(6)", 8, x.count(6));
        CHECK.due("end(9) after it", -1, x.end(9));
        CHECK.due("only the first eight bytes are read", 1, x.text());
    }

    private static void textAndWhatStays() {
        TenTrials x = new TenTrials();
        CHECK.due("an empty text", 0, x.text());
        CHECK.due("there is a text", 1, x.count(5));
        CHECK.due("blanks alone", 0, Check.tell(x, "  \n \n"));
        CHECK.due("tell", 3, Check.tell(x, "event field base 0 line 1 by 1;athlete;mark 0 0 7;"));
        CHECK.due("the tape is empty", 0, x.count(6));
        CHECK.due("sets", 7, x.sets(0, 0, 9));
        CHECK.due("card", 1, x.card(0));
        CHECK.due("a fault", -4, Check.tell(x, "athlete;athlete"));
        CHECK.due("the tape is empty after a fault", 0, x.count(6));
        CHECK.due("the text stays", 1, x.count(0));
        CHECK.due("its athletes stay", 1, x.count(1));
        CHECK.due("the mark stays", 9, x.mark(0, 0));
        CHECK.due("what can be undone stays", 1, x.count(4));
        CHECK.due("OUT stays", '9', x.octet(0));
        CHECK.due("undo", 0, x.undo());
        CHECK.due("the mark is back", 7, x.mark(0, 0));
        x.sets(0, 0, 8);
        CHECK.due("another text", 1, Check.tell(x, "athlete;"));
        CHECK.due("nothing can be undone", 0, x.count(4));
        CHECK.due("undo", -1, x.undo());
        CHECK.due("in place of the other one", 0, x.count(0));
        CHECK.due("OUT stays for a new text, too", 1, x.count(7));
        CHECK.due("its byte", '9', x.octet(0));
    }

    private static void faultOfTheLatest() {
        TenTrials x = new TenTrials();
        CHECK.due("fault(0) ahead of any", 0, x.fault(0));
        CHECK.due("fault(1) ahead of any", -1, x.fault(1));
        CHECK.due("fault(2)", -1, x.fault(2));
        CHECK.due("fault(-1)", -1, x.fault(-1));
        Check.tell(x, "athlete;tie 5;");
        CHECK.due("fault(0)", 1, x.fault(0));
        CHECK.due("fault(1)", 12, x.fault(1));
        CHECK.due("fault(2) after a fault", -1, x.fault(2));
        CHECK.due("a fault is no text", 0, x.count(5));
        Check.tell(x, "athlete;");
        CHECK.due("fault(0) without", 0, x.fault(0));
        CHECK.due("fault(1) without", -1, x.fault(1));
    }

    private static void counting() {
        TenTrials x = Check.told("event run base 5 line 1 by 1;event field base 0 root 1 by 1;event field base 0 root 1 by 1;"
            + "athlete;athlete;tie wins;bonus 3 when 1 < 2;");
        CHECK.due("events", 3, x.count(0));
        CHECK.due("athletes", 2, x.count(1));
        CHECK.due("bonus", 1, x.count(2));
        CHECK.due("tie", 2, x.count(3));
        CHECK.due("acts", 0, x.count(4));
        CHECK.due("text", 1, x.count(5));
        x.athlete();
        x.tie(1);
        CHECK.due("athletes then", 3, x.count(1));
        CHECK.due("tie then", 1, x.count(3));
        CHECK.due("acts then", 2, x.count(4));
        x.feed(0, 0, 0, 0, 0);
        CHECK.due("tape", 20, x.count(6));
        x.tell();
        CHECK.due("OUT", 12, x.count(7));
        CHECK.due("count(8)", -1, x.count(8));
        CHECK.due("count(-1)", -1, x.count(-1));
        CHECK.due("tie best told", 1, Check.told("tie best;").count(3));
        CHECK.due("tie none told", 0, Check.told("tie none;").count(3));
        CHECK.due("tie not told", 0, Check.told("athlete;").count(3));
    }
}
