import java.util.ArrayDeque;
import java.util.ArrayList;
import java.util.Arrays;
import java.util.Comparator;
import java.util.Deque;
import java.util.HashMap;
import java.util.HashSet;
import java.util.List;
import java.util.Map;
import java.util.Set;
import java.util.TreeMap;
import java.util.function.Function;
import java.util.function.Predicate;

/**
 * The document once more, in the slowest and plainest way: every search goes through all numbers, every undo
 * brings back a copy of all. RandomRunsTest compares TenTrials with it.
 */
final class Plain {
    static final int NONE = -1;

    static final class Fault extends RuntimeException {
        private static final long serialVersionUID = 1L;
        final int kind;
        final int place;

        Fault(int kind, int place) {
            this.kind = kind;
            this.place = place;
        }
    }

    record Event(boolean field, int base, String curve, int first, int second, TreeMap<Integer, Integer> table,
                 int spread, int[] all) {
        /** Looks a MARK up among all of them; they are worked out when the first is asked for. */
        int points(int mark) {
            if (mark == NONE) {
                return 0;
            }
            for (int m = 0; m <= 99999 && all[100000] == 0; m++) {
                all[m] = worked(m);
            }
            all[100000] = 1;
            return all[mark];
        }

        private int worked(int mark) {
            long d = field ? mark - base : base - mark;
            if (d < 0) {
                return 0;
            }
            long p;
            switch (curve) {
                case "line" -> p = first * d / second;
                case "square" -> p = first * d * d / second;
                case "root" -> {
                    long r = Math.max(0, (long) Math.sqrt(100 * d) - 2);
                    while ((r + 1) * (r + 1) <= 100 * d) {
                        r++;
                    }
                    p = first * r / second;
                }
                default -> {
                    Map.Entry<Integer, Integer> low = table.floorEntry((int) d);
                    Map.Entry<Integer, Integer> high = table.ceilingEntry((int) d);
                    if (low == null) {
                        p = 0;
                    } else if (high == null || high.getKey().equals(low.getKey())) {
                        p = low.getValue();
                    } else {
                        p = low.getValue() + (d - low.getKey()) * (high.getValue() - low.getValue())
                            / (high.getKey() - low.getKey());
                    }
                }
            }
            return (int) Math.min(2000, p);
        }

        int worst(int p) {
            for (int i = 0; i <= 99999; i++) {
                int mark = field ? i : 99999 - i;
                if (points(mark) >= p) {
                    return mark;
                }
            }
            return NONE;
        }

        int top() {
            points(0);
            return Arrays.stream(all, 0, 100000).max().getAsInt();
        }

        int better(int mark, int by) {
            for (int i = 0; i < by; i++) {
                if (field && mark < 99999) {
                    mark++;
                } else if (!field && mark > 0) {
                    mark--;
                }
            }
            return mark;
        }
    }

    /** POINTS event by event, null where there is no MARK. */
    static final class Row {
        final Integer[] points;

        Row(int events) {
            points = new Integer[events];
        }

        int at(int e) {
            return points[e] == null ? 0 : points[e];
        }

        int sum() {
            return Arrays.stream(points).mapToInt(p -> p == null ? 0 : p).sum();
        }

        int done() {
            return (int) Arrays.stream(points).filter(p -> p != null).count();
        }

        int best() {
            return Arrays.stream(points).filter(p -> p != null).mapToInt(p -> p).max().orElse(0);
        }

        int least() {
            return Arrays.stream(points).filter(p -> p != null).mapToInt(p -> p).min().orElse(0);
        }
    }

    record Bonus(int amount, Predicate<Row> test) {
    }

    static final class State {
        List<Event> events = new ArrayList<>();
        List<Bonus> bonuses = new ArrayList<>();
        int athletes;
        int tie;
        Map<Integer, Integer> marks = new HashMap<>();
        Map<Integer, int[]> gains = new HashMap<>();

        State copy() {
            State s = new State();
            s.events = events;
            s.bonuses = bonuses;
            s.athletes = athletes;
            s.tie = tie;
            s.marks = new HashMap<>(marks);
            s.gains = new HashMap<>(gains);
            return s;
        }

        int mark(int a, int e) {
            return marks.getOrDefault(a * 100 + e, NONE);
        }
    }

    private State state;
    private StringBuilder tape = new StringBuilder();
    private String out = "";
    private int fault;
    private int place = NONE;
    private final Deque<State> past = new ArrayDeque<>();

    // ---- the text

    private static final class Parser {
        final String text;
        final State state = new State();
        final List<String> tokens = new ArrayList<>();
        final List<Integer> places = new ArrayList<>();
        int at;
        boolean tie;
        int lines;

        Parser(String text) {
            this.text = text;
            int i = 0;
            while (i < text.length()) {
                int j = i;
                while (j < text.length() && text.charAt(j) >= 'a' && text.charAt(j) <= 'z') {
                    j++;
                }
                if (j == i) {
                    while (j < text.length() && text.charAt(j) >= '0' && text.charAt(j) <= '9') {
                        j++;
                    }
                }
                if (j == i) {
                    j++;
                }
                String token = text.substring(i, j);
                if (!token.equals(" ") && !token.equals("\n")) {
                    tokens.add(token);
                    places.add(i);
                }
                i = j;
            }
            tokens.add("");
            places.add(text.length());
        }

        String now() {
            return tokens.get(at);
        }

        Fault fail(int kind) {
            return new Fault(kind, places.get(at));
        }

        void want(String token) {
            if (!now().equals(token)) {
                throw fail(1);
            }
            at++;
        }

        boolean eat(String token) {
            if (now().equals(token)) {
                at++;
                return true;
            }
            return false;
        }

        int look(int low, int high) {
            if (!now().matches("[0-9]+")) {
                throw fail(1);
            }
            String digits = now().replaceFirst("^0+(?=.)", "");
            int n = digits.length() > 8 ? 99999999 : Integer.parseInt(digits);
            if (n < low || n > high) {
                throw fail(2);
            }
            return n;
        }

        int number(int low, int high) {
            int n = look(low, high);
            at++;
            return n;
        }

        void all() {
            while (!now().isEmpty()) {
                line();
                want(";");
                lines++;
            }
        }

        void line() {
            switch (now()) {
                case "event" -> event();
                case "tie" -> {
                    if (tie) {
                        throw fail(3);
                    }
                    at++;
                    tie = true;
                    state.tie = List.of("none", "best", "wins").indexOf(now());
                    if (state.tie < 0) {
                        throw fail(1);
                    }
                    at++;
                }
                case "bonus" -> {
                    if (state.bonuses.size() == 4) {
                        throw fail(4);
                    }
                    at++;
                    int amount = number(1, 500);
                    want("when");
                    state.bonuses.add(new Bonus(amount, test(0)));
                }
                case "athlete" -> {
                    if (state.athletes == 8) {
                        throw fail(4);
                    }
                    at++;
                    state.athletes++;
                }
                case "mark" -> {
                    at++;
                    int cell = cell();
                    state.marks.put(cell, number(0, 99999));
                }
                case "gain" -> {
                    at++;
                    int cell = cell();
                    int g = number(0, 99999);
                    want("in");
                    state.gains.put(cell, new int[] {g, number(1, 999)});
                }
                default -> throw fail(1);
            }
        }

        int cell() {
            int a = number(0, state.athletes - 1);
            return a * 100 + number(0, state.events.size() - 1);
        }

        void event() {
            if (state.events.size() == 10) {
                throw fail(4);
            }
            at++;
            boolean field = now().equals("field");
            if (!field && !now().equals("run")) {
                throw fail(1);
            }
            at++;
            want("base");
            int base = number(0, 99999);
            String curve = now();
            if (!List.of("line", "square", "root", "table").contains(curve)) {
                throw fail(1);
            }
            at++;
            int first = 0;
            int second = NONE;
            TreeMap<Integer, Integer> table = new TreeMap<>();
            if (curve.equals("table")) {
                do {
                    int way = look(table.isEmpty() ? 0 : table.lastKey() + 1, 99999);
                    if (table.size() == 8) {
                        throw fail(4);
                    }
                    at++;
                    want(":");
                    table.put(way, number(table.isEmpty() ? 0 : table.lastEntry().getValue(), 2000));
                } while (eat(","));
                first = table.size();
            } else {
                first = number(1, 9999);
                want("by");
                second = number(1, 99999);
            }
            int spread = eat("spread") ? number(0, 999) : 0;
            state.events.add(new Event(field, base, curve, first, second, table, spread, new int[100001]));
        }

        Predicate<Row> test(int open) {
            Predicate<Row> left = side(open);
            while (eat("or")) {
                left = left.or(side(open));
            }
            return left;
        }

        Predicate<Row> side(int open) {
            Predicate<Row> left = fact(open);
            while (eat("and")) {
                left = left.and(fact(open));
            }
            return left;
        }

        void opens(int open) {
            if (open == 6) {
                throw fail(4);
            }
            at++;
        }

        Predicate<Row> fact(int open) {
            if (now().equals("not")) {
                opens(open);
                return fact(open + 1).negate();
            }
            if (now().equals("[")) {
                opens(open);
                Predicate<Row> inner = test(open + 1);
                want("]");
                return inner;
            }
            Function<Row, Integer> left = sum(open);
            String relation = now();
            if (!List.of("<", "=", ">").contains(relation)) {
                throw fail(1);
            }
            at++;
            Function<Row, Integer> right = sum(open);
            return r -> {
                int c = Integer.compare(left.apply(r), right.apply(r));
                return relation.equals("<") ? c < 0 : relation.equals("=") ? c == 0 : c > 0;
            };
        }

        Function<Row, Integer> sum(int open) {
            Function<Row, Integer> left = term(open);
            while (now().equals("+") || now().equals("-")) {
                int sign = now().equals("+") ? 1 : -1;
                at++;
                Function<Row, Integer> before = left;
                Function<Row, Integer> right = term(open);
                left = r -> before.apply(r) + sign * right.apply(r);
            }
            return left;
        }

        Function<Row, Integer> term(int open) {
            switch (now()) {
                case "(" -> {
                    opens(open);
                    Function<Row, Integer> inner = sum(open + 1);
                    want(")");
                    return inner;
                }
                case "points" -> {
                    at++;
                    int e = number(0, state.events.size() - 1);
                    return r -> r.at(e);
                }
                case "total" -> {
                    at++;
                    return Row::sum;
                }
                case "done" -> {
                    at++;
                    return Row::done;
                }
                case "best" -> {
                    at++;
                    return Row::best;
                }
                case "least" -> {
                    at++;
                    return Row::least;
                }
                default -> {
                    int n = number(0, 99999);
                    return r -> n;
                }
            }
        }
    }

    // ---- what the terms say

    private Row row(int a) {
        Row row = new Row(state.events.size());
        for (int e = 0; e < state.events.size(); e++) {
            int mark = state.mark(a, e);
            row.points[e] = mark == NONE ? null : Integer.valueOf(state.events.get(e).points(mark));
        }
        return row;
    }

    private List<Row> rows() {
        List<Row> rows = new ArrayList<>();
        for (int a = 0; a < state.athletes; a++) {
            rows.add(row(a));
        }
        return rows;
    }

    private int bonuses(Row row) {
        return state.bonuses.stream().filter(b -> b.test().test(row)).mapToInt(Bonus::amount).sum();
    }

    private int total(Row row) {
        return row.sum() + bonuses(row);
    }

    private int wins(List<Row> rows, int a) {
        int wins = 0;
        for (int e = 0; e < state.events.size(); e++) {
            int event = e;
            int mine = rows.get(a).at(e);
            if (mine > 0 && rows.stream().allMatch(r -> r.at(event) <= mine)) {
                wins++;
            }
        }
        return wins;
    }

    private List<Integer> ranked(List<Row> rows) {
        List<Integer> order = new ArrayList<>();
        for (int a = 0; a < rows.size(); a++) {
            order.add(a);
        }
        Comparator<Integer> by = Comparator.comparing(a -> -total(rows.get(a)));
        if (state.tie == 1) {
            by = by.thenComparing(a -> -rows.get(a).best());
        }
        if (state.tie == 2) {
            by = by.thenComparing(a -> -wins(rows, a));
        }
        order.sort(by.thenComparing(a -> a));
        return order;
    }

    private int after(int a, int e, int h) {
        int mark = state.mark(a, e);
        int[] gain = state.gains.get(a * 100 + e);
        if (mark == NONE || gain == null) {
            return mark;
        }
        return state.events.get(e).better(mark, (int) Math.floor((double) gain[0] * h / (h + gain[1])));
    }

    /** All ways to share n over so many, the first of the best: what it is worth, then the shares. */
    private static int[] share(int[][] worth, int n) {
        Map<Integer, int[]> memo = new HashMap<>();
        return share(worth, 0, n, memo);
    }

    private static int[] share(int[][] worth, int from, int n, Map<Integer, int[]> memo) {
        int rows = worth.length;
        if (from == rows) {
            return n == 0 || rows == 0 ? new int[rows + 1] : null;
        }
        int key = from * 1000 + n;
        if (memo.containsKey(key)) {
            return memo.get(key);
        }
        int[] best = null;
        for (int h = 0; h <= n; h++) {
            int[] rest = share(worth, from + 1, n - h, memo);
            if (rest != null && (best == null || rest[0] + worth[from][h] > best[0])) {
                best = rest.clone();
                best[0] += worth[from][h];
                best[from + 1] = h;
            }
        }
        memo.put(key, best);
        return best;
    }

    private int[] spreadOf(int a, int n) {
        int[][] worth = new int[state.events.size()][n + 1];
        for (int e = 0; e < worth.length; e++) {
            for (int h = 0; h <= n; h++) {
                worth[e][h] = state.events.get(e).points(after(a, e, h));
            }
        }
        return share(worth, n);
    }

    private List<Row> drawn(int seed) {
        long x = seed;
        List<Row> rows = new ArrayList<>();
        for (int a = 0; a < state.athletes; a++) {
            Row row = new Row(state.events.size());
            for (int e = 0; e < state.events.size(); e++) {
                int mark = state.mark(a, e);
                if (mark != NONE) {
                    int s = state.events.get(e).spread();
                    x = Math.floorMod(1103515245L * x + 12345L, 1L << 31);
                    mark += (int) (Math.floorDiv(x, 64L) % (2 * s + 1)) - s;
                    row.points[e] = state.events.get(e).points(Math.min(99999, Math.max(0, mark)));
                }
            }
            rows.add(row);
        }
        return rows;
    }

    private void act() {
        past.addLast(state.copy());
        if (past.size() > 10) {
            past.removeFirst();
        }
    }

    // ---- the calls

    private boolean isEvent(int e) {
        return state != null && e >= 0 && e < state.events.size();
    }

    private boolean isAthlete(int a) {
        return state != null && a >= 0 && a < state.athletes;
    }

    private static boolean in(int n, int low, int high) {
        return low <= n && n <= high;
    }

    int call(String name, int[] p) {
        switch (name) {
            case "feed": {
                if (tape.length() + 20 > 1200) {
                    return NONE;
                }
                for (int n : p) {
                    tape.append((char) (n >>> 24)).append((char) (n >>> 16 & 255)).append((char) (n >>> 8 & 255)).append((char) (n & 255));
                }
                return tape.length();
            }
            case "end":
                if (p[0] < 0 || p[0] > tape.length()) {
                    return NONE;
                }
                tape.setLength(p[0]);
                return p[0];
            case "text":
                return text();
            case "fault":
                return p[0] == 0 ? fault : p[0] == 1 ? place : NONE;
            case "count":
                return count(p[0]);
            case "octet":
                return p[0] >= 0 && p[0] < out.length() ? out.charAt(p[0]) : NONE;
            case "undo":
                if (past.isEmpty()) {
                    return NONE;
                }
                state = past.removeLast();
                return past.size();
            default:
                return state == null ? -2 : withText(name, p);
        }
    }

    private int text() {
        Parser parser = new Parser(tape.toString());
        tape = new StringBuilder();
        fault = 0;
        place = NONE;
        try {
            parser.all();
        } catch (Fault f) {
            fault = f.kind;
            place = f.place;
            return -4;
        }
        state = parser.state;
        past.clear();
        return parser.lines;
    }

    private int count(int what) {
        State s = state == null ? new State() : state;
        int[] counts = {s.events.size(), s.athletes, s.bonuses.size(), s.tie, past.size(), state == null ? 0 : 1, tape.length(), out.length()};
        return in(what, 0, 7) ? counts[what] : NONE;
    }

    private int withText(String name, int[] p) {
        switch (name) {
            case "event":
            case "points":
            case "worst":
            case "top":
            case "same":
            case "step":
            case "leads":
            case "kth":
            case "kinds":
                return isEvent(p[0]) ? ofEvent(name, p, state.events.get(p[0])) : -2;
            case "mark":
            case "worth":
            case "needIn":
            case "pass":
            case "trained":
            case "gains":
            case "sets":
            case "gain":
            case "trains":
            case "hour":
            case "lent":
                return isAthlete(p[0]) && isEvent(p[1]) ? ofCell(name, p, p[0], p[1]) : -2;
            case "of":
            case "rank":
            case "need":
            case "pays":
            case "spread":
            case "hours":
            case "card":
            case "behind":
                return isAthlete(p[0]) ? ofAthlete(name, p, p[0]) : -2;
            default:
                return ofAll(name, p);
        }
    }

    private int ofEvent(String name, int[] p, Event event) {
        switch (name) {
            case "event": {
                int curve = List.of("line", "square", "root", "table").indexOf(event.curve());
                int[] whats = {event.field() ? 1 : 0, event.base(), curve, event.first(), event.second(), event.spread()};
                return in(p[1], 0, 5) ? whats[p[1]] : -2;
            }
            case "points":
                return in(p[1], 0, 99999) ? event.points(p[1]) : -2;
            case "worst":
                return in(p[1], 0, 2000) ? event.worst(p[1]) : -2;
            case "top":
                return event.top();
            case "same":
                return in(p[1], 0, 99999) && isEvent(p[2]) ? state.events.get(p[2]).worst(event.points(p[1])) : -2;
            case "step": {
                if (!in(p[1], 0, 99999)) {
                    return -2;
                }
                for (int by = 1; in(event.field() ? p[1] + by : p[1] - by, 0, 99999); by++) {
                    if (event.points(event.field() ? p[1] + by : p[1] - by) > event.points(p[1])) {
                        return by;
                    }
                }
                return NONE;
            }
            case "leads":
            case "kth": {
                int k = name.equals("leads") ? 0 : p[1];
                if (k < 0) {
                    return -2;
                }
                List<Integer> marked = new ArrayList<>();
                for (int a = 0; a < state.athletes; a++) {
                    if (state.mark(a, p[0]) != NONE) {
                        marked.add(a);
                    }
                }
                marked.sort(Comparator.comparing((Integer a) -> event.field() ? -state.mark(a, p[0]) : state.mark(a, p[0])));
                return k < marked.size() ? marked.get(k) : NONE;
            }
            default: {
                if (!in(p[1], 0, 99999) || !in(p[2], p[1], Math.min(99999, p[1] + 2000))) {
                    return -2;
                }
                Set<Integer> unlike = new HashSet<>();
                for (int m = p[1]; m <= p[2]; m++) {
                    unlike.add(event.points(m));
                }
                return unlike.size();
            }
        }
    }

    private int ofCell(String name, int[] p, int a, int e) {
        int cell = a * 100 + e;
        Event event = state.events.get(e);
        int mark = state.mark(a, e);
        int[] gain = state.gains.get(cell);
        switch (name) {
            case "mark":
                return mark;
            case "worth":
                return event.points(mark);
            case "needIn":
                if (!in(p[2], 0, 99999)) {
                    return -2;
                }
                int most = event.top();
                for (int q = 0; q <= most; q++) {
                    Row row = row(a);
                    row.points[e] = q;
                    if (total(row) >= p[2]) {
                        return q;
                    }
                }
                return NONE;
            case "pass": {
                int other = p[2];
                if (!isAthlete(other) || a == other) {
                    return -2;
                }
                List<Row> rows = rows();
                int top = event.top();
                for (int q = 0; q <= top; q++) {
                    rows.get(a).points[e] = q;
                    List<Integer> order = ranked(rows);
                    if (order.indexOf(a) < order.indexOf(other)) {
                        return q;
                    }
                }
                return NONE;
            }
            case "trained":
                return in(p[2], 0, 999) ? after(a, e, p[2]) : -2;
            case "gains":
                return !in(p[2], 0, 1) ? -2 : gain == null ? NONE : gain[p[2]];
            case "sets":
                if (!in(p[2], NONE, 99999)) {
                    return -2;
                }
                if (p[2] != mark) {
                    act();
                    state.marks.put(cell, p[2]);
                }
                return mark;
            case "gain":
                if (!in(p[2], 0, 99999) || !in(p[3], 1, 999)) {
                    return -2;
                }
                if (gain == null || gain[0] != p[2] || gain[1] != p[3]) {
                    act();
                    state.gains.put(cell, new int[] {p[2], p[3]});
                }
                return gain == null ? NONE : gain[0];
            case "trains": {
                if (!in(p[2], 0, 999)) {
                    return -2;
                }
                int after = after(a, e, p[2]);
                if (after != mark) {
                    act();
                    state.marks.put(cell, after);
                }
                return after;
            }
            case "hour":
                return in(p[2], 1, 999) ? event.points(after(a, e, p[2])) - event.points(after(a, e, p[2] - 1)) : -2;
            default: {
                if (!isAthlete(p[2])) {
                    return -2;
                }
                Row row = row(a);
                row.points[e] = row(p[2]).points[e];
                return total(row);
            }
        }
    }

    private int ofAthlete(String name, int[] p, int a) {
        List<Row> rows = rows();
        Row row = rows.get(a);
        switch (name) {
            case "of": {
                int[] whats = {total(row), row.sum(), bonuses(row), row.done(), row.best(), row.least(), wins(rows, a)};
                return in(p[1], 0, 6) ? whats[p[1]] : -2;
            }
            case "rank":
                return ranked(rows).indexOf(a);
            case "need":
                return in(p[1], 0, 99999) ? need(a, p[1]) : -2;
            case "pays": {
                if (!in(p[1], 1, 999)) {
                    return -2;
                }
                int best = NONE;
                int most = 0;
                for (int e = 0; e < state.events.size(); e++) {
                    int more = state.events.get(e).points(after(a, e, p[1])) - row.at(e);
                    if (more > most) {
                        best = e;
                        most = more;
                    }
                }
                return best;
            }
            case "spread":
                if (!in(p[1], 0, 60) || !(p[2] == NONE || isEvent(p[2]))) {
                    return -2;
                }
                return spreadOf(a, p[1])[p[2] + 1];
            case "hours":
                if (!in(p[1], 0, 99999)) {
                    return -2;
                }
                for (int h = 0; h <= 60; h++) {
                    if (spreadOf(a, h)[0] >= p[1]) {
                        return h;
                    }
                }
                return NONE;
            case "card": {
                List<String> parts = new ArrayList<>();
                for (Integer points : row.points) {
                    parts.add(points == null ? "-" : String.valueOf(points));
                }
                out = String.join(" ", parts);
                return out.length();
            }
            default: {
                int worst = NONE;
                int most = 0;
                for (int e = 0; e < state.events.size(); e++) {
                    int event = e;
                    int fewer = rows.stream().mapToInt(r -> r.at(event)).max().orElse(0) - row.at(e);
                    if (fewer > most) {
                        worst = e;
                        most = fewer;
                    }
                }
                return worst;
            }
        }
    }

    private int need(int a, int n) {
        int[] tops = state.events.stream().mapToInt(Event::top).toArray();
        for (int q = 0; q <= 2000; q++) {
            Row row = row(a);
            for (int e = 0; e < row.points.length; e++) {
                if (row.points[e] == null) {
                    if (tops[e] < q) {
                        return NONE;
                    }
                    row.points[e] = q;
                }
            }
            if (total(row) >= n) {
                return q;
            }
        }
        return NONE;
    }

    private int ofAll(String name, int[] p) {
        List<Row> rows = rows();
        switch (name) {
            case "holds":
                if (!in(p[0], 0, state.bonuses.size() - 1) || !isAthlete(p[1])) {
                    return -2;
                }
                return state.bonuses.get(p[0]).test().test(rows.get(p[1])) ? 1 : 0;
            case "bonus":
                return in(p[0], 0, state.bonuses.size() - 1) ? state.bonuses.get(p[0]).amount() : -2;
            case "place":
                return p[0] < 0 ? -2 : p[0] < rows.size() ? ranked(rows).get(p[0]) : NONE;
            case "dream": {
                int sum = 0;
                for (int e = 0; e < state.events.size(); e++) {
                    int leader = call("leads", new int[] {e});
                    sum += leader == NONE ? 0 : rows.get(leader).at(e);
                }
                return sum;
            }
            case "meet":
                return p[0] < 0 || p[1] < 0 ? -2 : p[1] < rows.size() ? ranked(drawn(p[0])).get(p[1]) : NONE;
            case "met":
                return p[0] < 0 || !isAthlete(p[1]) ? -2 : total(drawn(p[0]).get(p[1]));
            case "odds": {
                if (p[0] < 0 || !in(p[1], 1, 40) || (long) p[0] + p[1] > 2147483647L || !isAthlete(p[2])) {
                    return -2;
                }
                int won = 0;
                for (int i = 0; i < p[1]; i++) {
                    won += ranked(drawn(p[0] + i)).get(0) == p[2] ? 1 : 0;
                }
                return won;
            }
            case "athlete":
                if (state.athletes == 8) {
                    return -5;
                }
                act();
                state.athletes++;
                return state.athletes - 1;
            case "tie": {
                int was = state.tie;
                if (!in(p[0], 0, 2)) {
                    return -2;
                }
                if (p[0] != was) {
                    act();
                    state.tie = p[0];
                }
                return was;
            }
            case "tell": {
                StringBuilder list = new StringBuilder();
                for (int a : ranked(rows)) {
                    list.append(a).append(' ').append(total(rows.get(a))).append('\n');
                }
                out = list.toString();
                return out.length();
            }
            case "squad":
                return in(p[0], 0, 60) && (p[1] == NONE || isAthlete(p[1])) ? squad(p[0])[p[1] + 1] : -2;
            case "close": {
                int pair = NONE;
                for (int a = 0; a < rows.size(); a++) {
                    for (int b = a + 1; b < rows.size(); b++) {
                        if (pair == NONE || apart(rows, a, b) < apart(rows, pair / 10, pair % 10)) {
                            pair = 10 * a + b;
                        }
                    }
                }
                return pair;
            }
            case "team": {
                int sum = 0;
                for (int a = 0; a < 32; a++) {
                    if ((p[0] >>> a & 1) == 1) {
                        if (!isAthlete(a)) {
                            return -2;
                        }
                        sum += total(rows.get(a));
                    }
                }
                return sum;
            }
            case "even": {
                if (!in(p[0], 0, 99999)) {
                    return -2;
                }
                int[] tops = state.events.stream().mapToInt(Event::top).toArray();
                for (int q = 0; q <= 2000; q++) {
                    int each = q;
                    if (Arrays.stream(tops).map(t -> Math.min(t, each)).sum() >= p[0]) {
                        return q;
                    }
                }
                return NONE;
            }
            default:
                throw new IllegalArgumentException(name);
        }
    }

    private int apart(List<Row> rows, int a, int b) {
        return Math.abs(total(rows.get(a)) - total(rows.get(b)));
    }

    private int[] squad(int n) {
        int[][] worth = new int[state.athletes][n + 1];
        for (int a = 0; a < worth.length; a++) {
            for (int h = 0; h <= n; h++) {
                worth[a][h] = spreadOf(a, h)[0];
            }
        }
        return share(worth, n);
    }
}
