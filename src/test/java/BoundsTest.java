import java.lang.reflect.InvocationTargetException;
import java.lang.reflect.Method;
import java.util.ArrayList;
import java.util.Arrays;
import java.util.LinkedHashMap;
import java.util.List;
import java.util.Map;
import java.util.function.Supplier;

/**
 * Of each call that may be refused by -2: every argument at its least and at its greatest value is taken, the first one
 * below and the first one above, and those far off, are refused, and a refused call leaves all as it was;
 * without a TEXT, with an empty one, with a small one and with one in which everything is full.
 */
public final class BoundsTest {
    private static final Check CHECK = new Check();
    private static final Map<String, Supplier<TenTrials>> STATES = new LinkedHashMap<>();
    private static final Map<String, Method> METHODS = new LinkedHashMap<>();
    private static final int MIN = Integer.MIN_VALUE;
    private static final int MAX = Integer.MAX_VALUE;

    /** From where to where an argument goes; the greatest may hang on how many there are. */
    private record Range(int low, int high, char upTo) {
        int high(TenTrials x) {
            switch (upTo) {
                case 'E':
                    return x.count(0) - 1;
                case 'A':
                    return x.count(1) - 1;
                case 'B':
                    return x.count(2) - 1;
                case 'S':
                    return (1 << x.count(1)) - 1;
                default:
                    return high;
            }
        }
    }

    private static final Range EVENT = new Range(0, 0, 'E');
    private static final Range ATHLETE = new Range(0, 0, 'A');
    private static final Range BONUS = new Range(0, 0, 'B');
    private static final Range EVENT_OR_NONE = new Range(-1, 0, 'E');
    private static final Range ATHLETE_OR_NONE = new Range(-1, 0, 'A');
    private static final Range SET = new Range(0, 0, 'S');
    private static final Range MARK = within(0, 99999);
    private static final Range TOTAL = within(0, 99999);
    private static final Range PLACE = within(0, MAX);
    private static final Range SEED = within(0, MAX);

    public static void main(String[] args) throws IllegalAccessException {
        STATES.put("untold", States::untold);
        STATES.put("empty", States::empty);
        STATES.put("small", States::small);
        STATES.put("full", States::full);
        for (Method method : TenTrials.class.getDeclaredMethods()) {
            METHODS.put(method.getName(), method);
        }
        CHECK.run(BoundsTest.class);
    }

    private static Range within(int low, int high) {
        return new Range(low, high, ' ');
    }

    private static int call(TenTrials x, String name, int... args) {
        Object[] boxed = new Object[args.length];
        for (int i = 0; i < args.length; i++) {
            boxed[i] = args[i];
        }
        try {
            return (Integer) METHODS.get(name).invoke(x, boxed);
        } catch (IllegalAccessException | InvocationTargetException wrong) {
            throw new IllegalStateException(name + Arrays.toString(args), wrong);
        }
    }

    /** The ranges must allow each argument to be at its ends while the others are at their least values. */
    private static void look(String name, Range... ranges) {
        for (String state : STATES.keySet()) {
            TenTrials x = STATES.get(state).get();
            boolean canBe = x.count(5) == 1;
            for (Range range : ranges) {
                canBe &= range.low <= range.high(x);
            }
            List<int[]> within = new ArrayList<>();
            List<int[]> outside = new ArrayList<>();
            for (int i = 0; i < ranges.length; i++) {
                int low = ranges[i].low;
                int high = ranges[i].high(x);
                for (int value : new int[] {low, high}) {
                    (canBe ? within : outside).add(leastBut(ranges, i, value));
                }
                for (long value : new long[] {low - 1L, high + 1L, MIN, MAX}) {
                    if (value >= MIN && value <= MAX && (value < low || value > high)) {
                        outside.add(leastBut(ranges, i, (int) value));
                    }
                }
            }
            if (ranges.length == 0) {
                (canBe ? within : outside).add(new int[0]);
            }
            takes(state, name, within);
            refuses(state, name, outside);
        }
    }

    private static int[] leastBut(Range[] ranges, int at, int value) {
        int[] args = new int[ranges.length];
        for (int i = 0; i < args.length; i++) {
            args[i] = ranges[i].low;
        }
        args[at] = value;
        return args;
    }

    private static void takes(String state, String name, List<int[]> all) {
        for (int[] args : all) {
            int answer = call(STATES.get(state).get(), name, args);
            CHECK.due(state + ": that " + name + Arrays.toString(args) + ", which answered " + answer + ", is taken", 1, answer != -2 ? 1 : 0);
        }
    }

    /** Of one object, so that a call that leaves something behind is seen by the others, too. */
    private static void refuses(String state, String name, List<int[]> all) {
        if (all.isEmpty()) {
            return;
        }
        TenTrials x = STATES.get(state).get();
        for (int[] args : all) {
            CHECK.due(state + ": " + name + Arrays.toString(args), -2, call(x, name, args));
        }
        CHECK.same(state + ": the refused calls of " + name, Picture.of(STATES.get(state)), Picture.of(() -> {
            TenTrials y = STATES.get(state).get();
            all.forEach(args -> call(y, name, args));
            return y;
        }));
    }

    @Sentence(of = "7", says = "-2.")
    private static void event() {
        look("event", EVENT, within(0, 5));
    }

    @Sentence(of = "8", says = "-2.")
    private static void points() {
        look("points", EVENT, MARK);
    }

    @Sentence(of = "9", says = {"p (0 .. 2000)", "-2."})
    private static void worst() {
        look("worst", EVENT, within(0, 2000));
    }

    @Sentence(of = "10", says = "-2.")
    private static void top() {
        look("top", EVENT);
    }

    @Sentence(of = "11", says = "-2.")
    private static void same() {
        look("same", EVENT, MARK, EVENT);
    }

    @Sentence(of = "12", says = "-2.")
    private static void step() {
        look("step", EVENT, MARK);
    }

    @Sentence(of = "13", says = "-2.")
    private static void mark() {
        look("mark", ATHLETE, EVENT);
    }

    @Sentence(of = "14", says = "-2.")
    private static void worth() {
        look("worth", ATHLETE, EVENT);
    }

    @Sentence(of = "15", says = "-2.")
    private static void of() {
        look("of", ATHLETE, within(0, 6));
    }

    @Sentence(of = "16", says = "-2.")
    private static void holds() {
        look("holds", BONUS, ATHLETE);
    }

    @Sentence(of = "17", says = "-2.")
    private static void bonus() {
        look("bonus", BONUS);
    }

    @Sentence(of = "18", says = "-2 (k below 0, too).")
    private static void place() {
        look("place", PLACE);
    }

    @Sentence(of = "19", says = "-2.")
    private static void rank() {
        look("rank", ATHLETE);
    }

    @Sentence(of = "20", says = "-2.")
    private static void leads() {
        look("leads", EVENT);
    }

    @Sentence(of = "21", says = "-2: there is no TEXT.")
    private static void dream() {
        look("dream");
    }

    @Sentence(of = "22", says = {"n (0 .. 99999)", "-2."})
    private static void need() {
        look("need", ATHLETE, TOTAL);
    }

    @Sentence(of = "23", says = {"n (0 .. 99999)", "-2."})
    private static void needIn() {
        look("needIn", ATHLETE, EVENT, TOTAL);
    }

    @Sentence(of = "24", says = "-2 (one and the same, too).")
    private static void pass() {
        int[][] outside = {{-1, 0, 1}, {8, 0, 1}, {MIN, 0, 1}, {MAX, 0, 1}, {0, -1, 1}, {0, 10, 1}, {0, MIN, 1}, {0, MAX, 1},
            {0, 0, -1}, {0, 0, 8}, {0, 0, MIN}, {0, 0, MAX}, {0, 0, 0}, {1, 0, 1}, {2, 1, 2}, {7, 9, 7}};
        for (String state : STATES.keySet()) {
            refuses(state, "pass", List.of(outside));
        }
        refuses("small", "pass", List.of(new int[] {3, 0, 1}, new int[] {0, 2, 1}, new int[] {0, 0, 3}));
        takes("small", "pass", List.of(new int[] {0, 0, 1}, new int[] {2, 0, 1}, new int[] {0, 1, 1}, new int[] {0, 0, 2}, new int[] {2, 1, 0}));
        takes("full", "pass", List.of(new int[] {0, 0, 1}, new int[] {7, 0, 1}, new int[] {0, 9, 1}, new int[] {0, 0, 7}, new int[] {7, 9, 0}));
    }

    @Sentence(of = "25", says = {"h (0 .. 999)", "-2."})
    private static void trained() {
        look("trained", ATHLETE, EVENT, within(0, 999));
    }

    @Sentence(of = "26", says = "-2.")
    private static void gains() {
        look("gains", ATHLETE, EVENT, within(0, 1));
    }

    @Sentence(of = "27", says = {"h (1 .. 999)", "-2."})
    private static void pays() {
        look("pays", ATHLETE, within(1, 999));
    }

    @Sentence(of = "28", says = {"n (0 .. 60)", "-2 (e below NONE, too)."})
    private static void spread() {
        look("spread", ATHLETE, within(0, 60), EVENT_OR_NONE);
    }

    @Sentence(of = "29", says = {"n (0 .. 99999)", "-2."})
    private static void hours() {
        look("hours", ATHLETE, TOTAL);
    }

    @Sentence(of = "30", says = {"a seed (0 and more)", "-2 (k below 0, too)."})
    private static void meet() {
        look("meet", SEED, PLACE);
    }

    @Sentence(of = "31", says = "-2.")
    private static void met() {
        look("met", SEED, ATHLETE);
    }

    @Sentence(of = "32", says = {"n (1 .. 40)", "(s and n no more than 2147483647; s 0 and more)", "-2."})
    private static void odds() {
        // With the least n, 1, the greatest s is one less than the greatest number.
        look("odds", within(0, MAX - 1), within(1, 40), ATHLETE);
        for (int n = 1; n <= 40; n++) {
            takes("small", "odds", List.of(new int[] {0, n, 0}, new int[] {MAX - n, n, 0}));
            refuses("small", "odds", List.of(new int[] {MAX - n + 1, n, 0}, new int[] {MAX, n, 0}, new int[] {-1, n, 0}, new int[] {MIN, n, 0}));
        }
        refuses("small", "odds", List.of(new int[] {MAX, MAX, 0}, new int[] {MAX, MIN, 0}, new int[] {MIN, MIN, 0}, new int[] {MAX - 40, 41, 0}));
    }

    @Sentence(of = "33", says = "-2.")
    private static void sets() {
        look("sets", ATHLETE, EVENT, within(-1, 99999));
    }

    @Sentence(of = "34", says = {"-5: there are 8", "-2: there is no TEXT."})
    private static void athlete() {
        look("athlete");
        CHECK.stays("athlete() of a ninth", -5, States::full, TenTrials::athlete);
        CHECK.stays("athlete() without a TEXT", -2, States::untold, TenTrials::athlete);
    }

    @Sentence(of = "35", says = {"G (0 .. 99999)", "H (1 .. 999)", "-2."})
    private static void gain() {
        look("gain", ATHLETE, EVENT, within(0, 99999), within(1, 999));
    }

    @Sentence(of = "36", says = {"h (0 .. 999)", "-2."})
    private static void trains() {
        look("trains", ATHLETE, EVENT, within(0, 999));
    }

    @Sentence(of = "37", says = {"(0 .. 2)", "-2."})
    private static void tie() {
        look("tie", within(0, 2));
    }

    @Sentence(of = "39", says = "-2 (OUT stays).")
    private static void tell() {
        look("tell");
    }

    @Sentence(of = "40", says = "-2 (OUT stays).")
    private static void card() {
        look("card", ATHLETE);
    }

    @Sentence(of = "42", says = "-2 (k below 0, too).")
    private static void kth() {
        look("kth", EVENT, PLACE);
    }

    @Sentence(of = "43", says = "-2.")
    private static void behind() {
        look("behind", ATHLETE);
    }

    @Sentence(of = "44", says = {"the h-th hour (1 .. 999)", "-2."})
    private static void hour() {
        look("hour", ATHLETE, EVENT, within(1, 999));
    }

    @Sentence(of = "45", says = {"n (0 .. 60)", "-2 (a below NONE, too)."})
    private static void squad() {
        look("squad", within(0, 60), ATHLETE_OR_NONE);
    }

    @Sentence(of = "46", says = "-2: there is no TEXT.")
    private static void close() {
        look("close");
    }

    @Sentence(of = "47", says = "-2 (bits of none that there are, too).")
    private static void team() {
        look("team", SET);
        for (int bit = 0; bit < 32; bit++) {
            int set = 1 << bit;
            if (bit < 3) {
                takes("small", "team", List.of(new int[] {set}));
            } else {
                refuses("small", "team", List.of(new int[] {set}, new int[] {set | 1}, new int[] {set | 7}));
            }
        }
    }

    @Sentence(of = "48", says = {"(no less; at most 2000 more)", "-2."})
    private static void kinds() {
        look("kinds", EVENT, within(0, 0), within(0, 2000));
        int[][] taken = {{0, 0, 0}, {0, 0, 2000}, {0, 1, 2001}, {0, 97999, 99999}, {0, 99999, 99999}};
        int[][] outside = {{0, -1, -1}, {0, -1, 0}, {0, -1, 1999}, {0, 0, 2001}, {0, 1, 2002}, {0, 1, 0}, {0, 99999, 99998},
            {0, 97998, 99999}, {0, 98000, 100000}, {0, 99999, 100000}, {0, 100000, 100000}, {0, MIN, MAX}, {0, MAX, MIN}, {0, MIN, MIN},
            {0, MAX, MAX}, {-1, 0, 0}, {10, 0, 0}, {MIN, 0, 0}, {MAX, 0, 0}};
        for (String state : List.of("small", "full")) {
            takes(state, "kinds", List.of(taken));
            refuses(state, "kinds", List.of(outside));
        }
        refuses("untold", "kinds", List.of(taken));
        refuses("empty", "kinds", List.of(taken));
    }

    @Sentence(of = "49", says = "-2 (they may be one).")
    private static void lent() {
        look("lent", ATHLETE, EVENT, ATHLETE);
        takes("small", "lent", List.of(new int[] {2, 1, 2}, new int[] {1, 0, 1}));
    }

    @Sentence(of = "50", says = {"n (0 .. 99999)", "-2."})
    private static void even() {
        look("even", TOTAL);
    }

    /** Where an argument is refused and there would be no answer anyway, or no place. */
    @Sentence(of = "IV", says = {"-2 (where nothing else is told): there is no TEXT, no such EVENT, ATHLETE, bonus, what, number as told;", "ahead of NONE, -5."})
    private static void aheadOfNone() {
        // Athlete 2 has no mark; without an argument out of its bounds each of these calls answers NONE.
        TenTrials x = States.small();
        int[][] none = {{x.mark(2, 0)}, {x.trained(2, 0, 999)}, {x.trains(2, 0, 999)}, {x.gains(2, 0, 1)}, {x.pays(2, 999)},
            {x.need(2, 99999)}, {x.needIn(2, 0, 99999)}, {x.hours(2, 99999)}, {x.even(99999)}, {x.worst(0, 2000)},
            {x.same(0, 0, 1)}, {x.step(0, 0)}, {x.place(3)}, {x.meet(0, 3)}, {x.kth(0, 2)}};
        for (int i = 0; i < none.length; i++) {
            CHECK.due("call " + i + " within its bounds", -1, none[i][0]);
        }
        int[] refused = {x.mark(2, 2), x.trained(2, 0, 1000), x.trains(2, 0, 1000), x.gains(2, 0, 2), x.pays(2, 1000),
            x.need(2, 100000), x.needIn(2, 0, 100000), x.hours(2, 100000), x.even(100000), x.worst(0, 2001),
            x.same(0, -1, 1), x.step(0, -1), x.place(-1), x.meet(-1, 3), x.kth(0, -1)};
        for (int i = 0; i < refused.length; i++) {
            CHECK.due("call " + i + " outside its bounds", -2, refused[i]);
        }
        TenTrials untold = new TenTrials();
        CHECK.due("place(9) without a TEXT", -2, untold.place(9));
        CHECK.due("meet(0, 9) without a TEXT", -2, untold.meet(0, 9));
        CHECK.due("close() without a TEXT", -2, untold.close());
        CHECK.due("athlete() without a TEXT", -2, untold.athlete());
        CHECK.due("even(1) without a TEXT", -2, untold.even(1));
        TenTrials nobody = Check.told("event run base 0 line 1 by 1;");
        CHECK.due("leads(0) of nobody", -1, nobody.leads(0));
        CHECK.due("leads(1) of nobody", -2, nobody.leads(1));
        CHECK.due("close() of nobody", -1, nobody.close());
    }
}
