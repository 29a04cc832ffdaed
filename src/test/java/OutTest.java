/** Promises 39 to 41: what is told in OUT. */
public final class OutTest {
    private static final Check CHECK = new Check();

    public static void main(String[] args) throws IllegalAccessException {
        CHECK.run(OutTest.class);
    }

    private static void out(TenTrials x, String want) {
        String got = Check.out(x);
        CHECK.due("OUT is [" + got + "], due is [" + want + "]: alike", 1, got.equals(want) ? 1 : 0);
        CHECK.due("count(7)", want.length(), x.count(7));
    }

    private static TenTrials three() {
        return Check.told("event field base 0 line 1 by 1;event run base 10 line 1 by 1;event field base 0 line 1 by 1;"
            + "athlete;athlete;athlete;mark 0 0 99;mark 1 0 1005;mark 1 1 20;mark 1 2 10;bonus 1 when done = 1;");
    }

    /** Eight ATHLETES with the most POINTS of ten EVENTS. */
    private static TenTrials greatest() {
        TenTrials x = Check.told("event field base 0 line 1 by 1;".repeat(10) + "athlete;".repeat(8) + "bonus 500 when 1=1;".repeat(4));
        for (int a = 0; a < 8; a++) {
            for (int e = 0; e < 10; e++) {
                x.sets(a, e, 99999);
            }
        }
        return x;
    }

    @Sentence(of = "39", says = "A list is TOLD in OUT: ATHLETES by RANK, of each the number, a blank, the TOTAL, LF (10): how many bytes.")
    private static void tell() {
        TenTrials x = three();
        CHECK.due("tell", 17, x.tell());
        out(x, "1 1015\n0 100\n2 0\n");
        TenTrials nobody = Check.told("event run base 10 line 1 by 1;");
        CHECK.due("tell of nobody", 0, nobody.tell());
        out(nobody, "");
        TenTrials most = greatest();
        CHECK.due("the longest", 64, most.tell());
        out(most, "0 22000\n1 22000\n2 22000\n3 22000\n4 22000\n5 22000\n6 22000\n7 22000\n");
        CHECK.due("the shortest of eight", 32, Check.told("athlete;".repeat(8)).tell());
        // Where a TOTAL has one digit more.
        int[] totals = {0, 9, 10, 99, 100, 999, 1000, 1999};
        TenTrials digits = Check.told("event field base 0 line 1 by 1;" + "athlete;".repeat(8));
        for (int a = 0; a < 8; a++) {
            digits.sets(a, 0, totals[a]);
        }
        digits.tell();
        out(digits, "7 1999\n6 1000\n5 999\n4 100\n3 99\n2 10\n1 9\n0 0\n");
        TenTrials five = Check.told("event field base 0 line 1 by 1;".repeat(5) + "athlete;athlete;");
        for (int e = 0; e < 5; e++) {
            five.sets(0, e, 2000);
            five.sets(1, e, e == 0 ? 1999 : 2000);
        }
        five.tell();
        out(five, "0 10000\n1 9999\n");
    }

    @Sentence(of = "39", says = "-2 (OUT stays).")
    private static void tellRefused() {
        CHECK.stays("tell without a text", -2, States::untold, TenTrials::tell);
        CHECK.due("nothing in OUT", -1, new TenTrials().octet(0));
    }

    @Sentence(of = "40", says = "A card of an ATHLETE is TOLD in OUT: of each EVENT the POINTS (- without a MARK), a blank between: how many bytes.")
    private static void card() {
        TenTrials x = three();
        CHECK.due("card(1)", 9, x.card(1));
        out(x, "1005 0 10");
        CHECK.due("card(0)", 6, x.card(0));
        out(x, "99 - -");
        CHECK.due("card(2)", 5, x.card(2));
        out(x, "- - -");
        TenTrials none = Check.told("athlete;");
        CHECK.due("card without events", 0, none.card(0));
        out(none, "");
        TenTrials one = Check.told("event field base 0 line 1 by 1;athlete;");
        CHECK.due("one event", 1, one.card(0));
        out(one, "-");
        TenTrials most = greatest();
        CHECK.due("the longest", 49, most.card(7));
        out(most, "2000 2000 2000 2000 2000 2000 2000 2000 2000 2000");
    }

    @Sentence(of = "40", says = "-2 (OUT stays).")
    private static void cardRefused() {
        TenTrials x = three();
        x.card(0);
        CHECK.due("card(3)", -2, x.card(3));
        CHECK.due("card(-1)", -2, x.card(-1));
        out(x, "99 - -");
        CHECK.stays("card(3)", -2, States::small, y -> y.card(3));
        CHECK.stays("card(8)", -2, States::full, y -> y.card(8));
        CHECK.stays("card(0) of nobody", -2, States::empty, y -> y.card(0));
    }

    @Sentence(of = "41", says = {"Byte i of OUT (what tell(), card() told last that was not refused, whatever came since, a new text, too; empty ahead of any).", "NONE: there is none such."})
    private static void octet() {
        TenTrials x = three();
        CHECK.due("nothing was told yet", -1, x.octet(0));
        x.card(0);
        CHECK.due("octet(-1)", -1, x.octet(-1));
        CHECK.due("octet(0)", '9', x.octet(0));
        CHECK.due("octet(5)", '-', x.octet(5));
        CHECK.due("octet(6)", -1, x.octet(6));
        CHECK.due("octet(2147483647)", -1, x.octet(2147483647));
        CHECK.due("octet(-2147483648)", -1, x.octet(-2147483648));
        x.sets(0, 0, 5);
        x.undo();
        x.athlete();
        x.card(9);
        out(x, "99 - -");
        Check.tell(x, "");
        out(x, "99 - -");
        CHECK.due("card(0) of nobody", -2, x.card(0));
        out(x, "99 - -");
        Check.tell(x, "x");
        out(x, "99 - -");
        x.tell();
        out(x, "");
        CHECK.due("octet(0)", -1, x.octet(0));
        TenTrials most = greatest();
        most.tell();
        CHECK.due("the last byte of all", 10, most.octet(63));
        CHECK.due("one behind it", -1, most.octet(64));
        most.card(0);
        CHECK.due("the last byte of a card", '0', most.octet(48));
        CHECK.due("what was longer is gone", -1, most.octet(49));
    }
}
