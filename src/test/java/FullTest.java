/** The greatest contest, with every call in it, and a small one behind it on the same object: nothing of the old one counts. */
public final class FullTest {
    private static final Check CHECK = new Check();

    public static void main(String[] args) {
        TenTrials x = Check.told("event field base 0 line 1 by 1;".repeat(10) + "athlete;".repeat(8) + "bonus 5 when done = 10;".repeat(4));
        for (int a = 0; a < 8; a++) {
            for (int e = 0; e < 10; e++) {
                x.sets(a, e, 100 * a + e);
            }
        }
        x.gain(7, 9, 60, 60);
        greatest(x);
        Check.tell(x, "event field base 0 table 5:9;athlete;");
        small(x);
        fullTape();
        fullTable();
        CHECK.end("FullTest");
    }

    /** Athlete a has 1000 a and 45 POINTS, and 20 more by the bonuses. */
    private static void greatest(TenTrials x) {
        CHECK.due("athlete", -5, x.athlete());
        CHECK.due("of", 7065, x.of(7, 0));
        CHECK.due("done", 10, x.of(7, 3));
        CHECK.due("wins", 10, x.of(7, 6));
        CHECK.due("holds", 1, x.holds(3, 7));
        CHECK.due("place", 7, x.place(0));
        CHECK.due("the last place", 0, x.place(7));
        CHECK.due("rank", 7, x.rank(0));
        CHECK.due("leads", 7, x.leads(9));
        CHECK.due("kth", 0, x.kth(9, 7));
        CHECK.due("dream", 7045, x.dream());
        CHECK.due("need", 0, x.need(7, 7065));
        CHECK.due("need more", -1, x.need(7, 7066));
        CHECK.due("needIn", 710, x.needIn(7, 9, 7066));
        CHECK.due("pass", 1609, x.pass(6, 9, 7));
        CHECK.due("pays", 9, x.pays(7, 60));
        CHECK.due("spread", 7075, x.spread(7, 60, -1));
        CHECK.due("spread of the last", 60, x.spread(7, 60, 9));
        CHECK.due("hours", 60, x.hours(7, 7075));
        CHECK.due("squad", 28390, x.squad(60, -1));
        CHECK.due("squad of the last", 60, x.squad(60, 7));
        CHECK.due("meet", 7, x.meet(3, 0));
        CHECK.due("met", 7065, x.met(3, 7));
        CHECK.due("odds", 40, x.odds(0, 40, 7));
        CHECK.due("behind", 0, x.behind(0));
        CHECK.due("close", 1, x.close());
        CHECK.due("team", 28520, x.team(255));
        CHECK.due("lent", 765, x.lent(0, 9, 7));
        CHECK.due("even", 2000, x.even(20000));
        CHECK.due("even more", -1, x.even(20001));
        CHECK.due("card", 39, x.card(7));
        CHECK.due("tell", 54, x.tell());
        CHECK.due("trains", 739, x.trains(7, 9, 60));
    }

    private static void small(TenTrials x) {
        CHECK.due("dream", 0, x.dream());
        CHECK.due("spread", 0, x.spread(0, 7, -1));
        CHECK.due("spread of the only one", 7, x.spread(0, 7, 0));
        CHECK.due("squad", 0, x.squad(7, -1));
        CHECK.due("squad of the only one", 7, x.squad(7, 0));
        CHECK.due("even", 9, x.even(9));
        CHECK.due("even more", -1, x.even(10));
        CHECK.due("behind", -1, x.behind(0));
        CHECK.due("close", -1, x.close());
        CHECK.due("team", -2, x.team(2));
        CHECK.due("place", -1, x.place(1));
        CHECK.due("bonus", -2, x.bonus(0));
        CHECK.due("need", 9, x.need(0, 9));
        CHECK.due("sets", -1, x.sets(0, 0, 5));
        CHECK.due("trained", 5, x.trained(0, 0, 999));
        CHECK.due("of", 9, x.of(0, 0));
        CHECK.due("tell", 4, x.tell());
        CHECK.due("top", 9, x.top(0));
    }

    private static void fullTape() {
        TenTrials x = new TenTrials();
        CHECK.due("a tape of semicolons", -4, Check.tell(x, ";".repeat(1200)));
        CHECK.due("its place", 0, x.fault(1));
        CHECK.due("with a number as the last", -4, Check.tell(x, ";".repeat(1199) + "5"));
        String start = "athlete;bonus 5 when total+1=1";
        String most = start + "+1-1".repeat((1199 - start.length()) / 4);
        CHECK.due("1200 bytes", 2, Check.tell(x, most + " ".repeat(1199 - most.length()) + ";"));
        CHECK.due("the longest sum", 1, x.holds(0, 0));
        String facts = "athlete;bonus 5 when 1=2";
        String longest = facts + " or 1=2".repeat((1192 - facts.length()) / 7) + " or 1=1;";
        CHECK.due("the longest test", 2, Check.tell(x, longest));
        CHECK.due("it is so", 1, x.holds(0, 0));
        CHECK.due("a word of 1200 bytes", -4, Check.tell(x, "a".repeat(1200)));
        CHECK.due("a number of 1188 bytes", -4, Check.tell(x, "bonus " + "9".repeat(1188) + " when;"));
        CHECK.due("its fault", 2, x.fault(0));
        CHECK.due("z is a letter, too", -4, Check.tell(x, "athletez;"));
        CHECK.due("its place", 0, x.fault(1));
        CHECK.due("the end of a full tape", -4, Check.tell(x, " ".repeat(1193) + "athlete"));
        CHECK.due("its place", 1200, x.fault(1));
    }

    private static void fullTable() {
        TenTrials x = Check.told("event field base 0 table 1:1,2:2,3:3,4:4,5:5,6:6,7:7,8:8;");
        CHECK.due("above the last of eight", 8, x.points(0, 99999));
        CHECK.due("at the last of eight", 8, x.points(0, 8));
        Check.tell(x, "athlete;");
        Check.tell(x, "event field base 0 table 1:1;");
        CHECK.due("above the only one", 1, x.points(0, 5));
    }
}
