/** Objects in states of which refused calls must change nothing: each has bytes on its tape and a fault behind it. */
final class States {
    private States() {
    }

    /** No TEXT at all. */
    static TenTrials untold() {
        TenTrials x = new TenTrials();
        Check.tell(x, "tie all;");
        return typed(x);
    }

    /** A TEXT without EVENTS and ATHLETES. */
    static TenTrials empty() {
        TenTrials x = Check.told("tie wins;");
        x.tie(1);
        Check.tell(x, "athlete");
        return typed(x);
    }

    /** Two EVENTS, two ATHLETES and one more, a bonus, acts of each kind, something in OUT. */
    static TenTrials small() {
        TenTrials x = Check.told("event run base 200 line 1 by 1 spread 7;event field base 5 table 0:3,10:90;"
            + "athlete;athlete;mark 0 0 150;mark 1 1 9;gain 0 0 30 in 10;gain 1 1 4 in 4;bonus 9 when done = 1;tie wins;");
        x.sets(1, 0, 140);
        x.athlete();
        x.gain(2, 1, 8, 9);
        x.trains(0, 0, 5);
        x.tie(1);
        x.tell();
        Check.tell(x, "athlete;tie none;tie best;");
        return typed(x);
    }

    /** As much of everything as there may be: EVENTS, ATHLETES, bonuses, acts, bytes of OUT and of the TAPE. */
    static TenTrials full() {
        TenTrials x = Check.told("event field base 0 line 1 by 1;".repeat(10) + "athlete;".repeat(8)
            + "bonus 500 when total > 0;".repeat(4) + "mark 0 0 99999;mark 7 9 99999;gain 7 9 5 in 6;");
        for (int m = 0; m < 12; m++) {
            x.sets(m % 8, m % 10, 3000 + m);
        }
        x.tell();
        Check.tell(x, "gain 0");
        Check.type(x, "athlete;" + " ".repeat(1192));
        return x;
    }

    private static TenTrials typed(TenTrials x) {
        Check.type(x, "athlete;athlete;");
        return x;
    }
}
