import java.util.LinkedHashMap;
import java.util.Map;
import java.util.function.Supplier;

/**
 * All that can be seen of an object: two objects with the same picture hold the same.
 * It is taken of several objects that are made alike, so that none is used for more than 512 calls,
 * and so that looking at what undo() and text() bring does not spoil the rest.
 */
final class Picture {
    private final Supplier<TenTrials> made;
    private final Map<String, Integer> seen = new LinkedHashMap<>();

    private Picture(Supplier<TenTrials> made) {
        this.made = made;
    }

    static Map<String, Integer> of(Supplier<TenTrials> made) {
        Picture picture = new Picture(made);
        picture.lookAtContest();
        int acts = made.get().count(4);
        for (int undone = 0; undone <= acts; undone++) {
            picture.lookBack(undone);
        }
        picture.lookAtTape();
        return picture.seen;
    }

    private void see(String call, int answer) {
        seen.put(call, answer);
    }

    private void lookAtContest() {
        TenTrials x = made.get();
        see("fault(0)", x.fault(0));
        see("fault(1)", x.fault(1));
        for (int what = 0; what <= 7; what++) {
            see("count(" + what + ")", x.count(what));
        }
        for (int i = 0; i < x.count(7); i++) {
            see("octet(" + i + ")", x.octet(i));
        }
        for (int e = 0; e < x.count(0); e++) {
            for (int what = 0; what <= 5; what++) {
                see("event(" + e + ", " + what + ")", x.event(e, what));
            }
            see("top(" + e + ")", x.top(e));
        }
        for (int k = 0; k < x.count(2); k++) {
            see("bonus(" + k + ")", x.bonus(k));
        }
        for (int a = 0; a < x.count(1); a++) {
            see("of(" + a + ", 0)", x.of(a, 0));
            see("of(" + a + ", 2)", x.of(a, 2));
            see("rank(" + a + ")", x.rank(a));
        }
    }

    private void lookBack(int undone) {
        TenTrials x = made.get();
        String then = " after undo() " + undone + " times";
        for (int i = 0; i < undone; i++) {
            see("undo() " + i + then, x.undo());
        }
        int athletes = x.count(1);
        int events = x.count(0);
        see("athletes" + then, athletes);
        see("tie" + then, x.count(3));
        for (int a = 0; a < athletes; a++) {
            for (int e = 0; e < events; e++) {
                see("mark(" + a + ", " + e + ")" + then, x.mark(a, e));
                see("gains(" + a + ", " + e + ", 0)" + then, x.gains(a, e, 0));
                see("gains(" + a + ", " + e + ", 1)" + then, x.gains(a, e, 1));
            }
        }
    }

    private void lookAtTape() {
        TenTrials x = made.get();
        see("text() of the tape", x.text());
        see("fault(0) of the tape", x.fault(0));
        see("fault(1) of the tape", x.fault(1));
        see("events of the tape", x.count(0));
        see("athletes of the tape", x.count(1));
    }
}
