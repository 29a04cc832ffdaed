/** Promises 39 to 41: what is told in OUT. */
public final class OutTest {
    private static final Check CHECK = new Check();

    public static void main(String[] args) {
        tell();
        card();
        whatStays();
        longest();
        CHECK.end("OutTest");
    }

    private static void out(TenTrials x, String want) {
        String got = Check.out(x);
        CHECK.due("OUT is [" + got + "], due is [" + want + "]: alike", 1, got.equals(want) ? 1 : 0);
        CHECK.due("count(7)", want.length(), x.count(7));
    }

    private static TenTrials three() {
        return Check.told("event field base 0 line 1 by 1;event run base 10 line 1 by 1;event field base 0 line 1 by 1;"
            + "athlete;athlete;athlete;mark 0 0 99;mark 1 0 1005;mark 1 1 20;mark 1 2 10;bonus 1 when done = 1;");
    }

    private static void tell() {
        TenTrials x = three();
        CHECK.due("tell", 17, x.tell());
        out(x, "1 1015\n0 100\n2 0\n");
        CHECK.due("tell of nobody", 0, Check.told("event run base 10 line 1 by 1;").tell());
    }

    private static void card() {
        TenTrials x = three();
        CHECK.due("card(1)", 9, x.card(1));
        out(x, "1005 0 10");
        CHECK.due("card(0)", 6, x.card(0));
        out(x, "99 - -");
        CHECK.due("card(2)", 5, x.card(2));
        out(x, "- - -");
        CHECK.due("card without events", 0, Check.told("athlete;").card(0));
    }

    private static void whatStays() {
        TenTrials x = three();
        CHECK.due("nothing was told yet", -1, x.octet(0));
        x.card(0);
        CHECK.due("card(3)", -2, x.card(3));
        CHECK.due("card(-1)", -2, x.card(-1));
        out(x, "99 - -");
        CHECK.due("octet(-1)", -1, x.octet(-1));
        CHECK.due("octet(5)", '-', x.octet(5));
        CHECK.due("octet(6)", -1, x.octet(6));
        CHECK.due("octet(2147483647)", -1, x.octet(2147483647));
        x.sets(0, 0, 5);
        out(x, "99 - -");
        Check.tell(x, "");
        out(x, "99 - -");
        Check.tell(x, "x");
        out(x, "99 - -");
        x.tell();
        out(x, "");
        CHECK.due("octet(0)", -1, x.octet(0));
    }

    private static void longest() {
        StringBuilder text = new StringBuilder("event field base 0 line 1 by 1;".repeat(10) + "athlete;".repeat(8)
            + "bonus 500 when 1=1;".repeat(4));
        TenTrials x = Check.told(text.toString());
        for (int a = 0; a < 8; a++) {
            for (int e = 0; e < 10; e++) {
                x.sets(a, e, 99999);
            }
        }
        CHECK.due("tell", 64, x.tell());
        out(x, "0 22000\n1 22000\n2 22000\n3 22000\n4 22000\n5 22000\n6 22000\n7 22000\n");
        CHECK.due("card", 49, x.card(7));
        out(x, "2000 2000 2000 2000 2000 2000 2000 2000 2000 2000");
    }
}
