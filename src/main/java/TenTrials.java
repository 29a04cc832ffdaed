/** A contest of up to ten events and eight athletes, told as a text; the document's promises say what each call answers. */
public final class TenTrials {
    public static final int NONE = -1;

    private static final int REFUSED = -2;
    private static final int FAULTY = -4;
    private static final int FULL = -5;

    private static final int MOST_EVENTS = 10;
    private static final int MOST_ATHLETES = 8;
    private static final int MOST_BONUSES = 4;
    private static final int MOST_TWOS = 8;
    private static final int MOST_WITHIN = 6;
    private static final int MOST_BYTES = 1200;
    private static final int FED_BYTES = 20;
    private static final int CELLS = 80;

    private static final int MOST_MARK = 99999;
    private static final int MOST_POINTS = 2000;
    private static final int MOST_TOTAL = 99999;
    private static final int MOST_FACTOR = 9999;
    private static final int MOST_DIVISOR = 99999;
    private static final int MOST_SPREAD = 999;
    private static final int MOST_BONUS = 500;
    private static final int MOST_TRAINING = 999;
    private static final int MOST_HOURS = 60;
    private static final int MOST_MEETS = 40;
    private static final int MOST_SEED = 2147483647;
    private static final int MOST_KINDS = 2000;
    private static final int MOST_UNDONE = 10;

    private static final int LINE = 0;
    private static final int SQUARE = 1;
    private static final int ROOT = 2;
    private static final int TABLE = 3;

    private static final int TIE_NONE = 0;
    private static final int TIE_BEST = 1;
    private static final int TIE_WINS = 2;

    private static final int MISPLACED = 1;
    private static final int OUT_OF_BOUNDS = 2;
    private static final int TIE_AGAIN = 3;
    private static final int TOO_MANY = 4;

    private static final int ACT_MARK = 0;
    private static final int ACT_ATHLETE = 1;
    private static final int ACT_GAIN = 2;
    private static final int ACT_TIE = 3;

    // Up to OP_LEAST an operation brings a number of its own; those behind it work on numbers that are there.
    private static final int OP_NUMBER = 0;
    private static final int OP_POINTS = 1;
    private static final int OP_TOTAL = 2;
    private static final int OP_DONE = 3;
    private static final int OP_BEST = 4;
    private static final int OP_LEAST = 5;
    private static final int OP_ADD = 6;
    private static final int OP_SUBTRACT = 7;
    private static final int OP_LESS = 8;
    private static final int OP_EQUAL = 9;
    private static final int OP_MORE = 10;
    private static final int OP_AND = 11;
    private static final int OP_OR = 12;
    private static final int OP_NOT = 13;
    private static final int OPERANDS = 100000;

    private static final int BLANK = 32;
    private static final int LINE_FEED = 10;
    private static final int DASH = 45;

    private final byte[] tape = new byte[MOST_BYTES];
    private int tapeLength;
    private final Page out = new Page();
    private final Reader reader = new Reader();
    private final History history = new History();
    private Contest contest = new Contest();
    private boolean loaded;

    // Room to work in, made once: what stands here is worked out anew by each call that uses it.
    private final Score score = new Score();
    private final Standings standings = new Standings();
    private final Shares byEvent = new Shares();
    private final Shares byAthlete = new Shares();
    private final int[] tops = new int[MOST_EVENTS];

    public TenTrials() {
    }

    public int feed(int a, int b, int c, int d, int e) {
        if (tapeLength > MOST_BYTES - FED_BYTES) {
            return NONE;
        }
        append(a);
        append(b);
        append(c);
        append(d);
        append(e);
        return tapeLength;
    }

    public int end(int n) {
        if (n < 0 || n > tapeLength) {
            return NONE;
        }
        tapeLength = n;
        return n;
    }

    public int text() {
        int lines = reader.readAll(tape, tapeLength);
        tapeLength = 0;
        if (lines == FAULTY) {
            return FAULTY;
        }
        contest = reader.exchange(contest);
        loaded = true;
        history.clear();
        return lines;
    }

    public int fault(int what) {
        if (what == 0) {
            return reader.fault;
        }
        return what == 1 ? reader.place : NONE;
    }

    public int count(int what) {
        switch (what) {
            case 0:
                return contest.events;
            case 1:
                return contest.athletes;
            case 2:
                return contest.bonuses.size;
            case 3:
                return contest.tie;
            case 4:
                return history.size;
            case 5:
                return loaded ? 1 : 0;
            case 6:
                return tapeLength;
            case 7:
                return out.length;
            default:
                return NONE;
        }
    }

    public int event(int e, int what) {
        if (!hasEvent(e)) {
            return REFUSED;
        }
        Trial trial = contest.trials[e];
        switch (what) {
            case 0:
                return trial.moreIsBetter ? 1 : 0;
            case 1:
                return trial.base;
            case 2:
                return trial.curve;
            case 3:
                return trial.curve == TABLE ? trial.twos : trial.factor;
            case 4:
                return trial.curve == TABLE ? NONE : trial.divisor;
            case 5:
                return trial.swing;
            default:
                return REFUSED;
        }
    }

    public int points(int e, int mark) {
        if (!hasEvent(e) || !isMark(mark)) {
            return REFUSED;
        }
        return contest.trials[e].valueOf(mark);
    }

    public int worst(int e, int p) {
        if (!hasEvent(e) || !isWithin(p, 0, MOST_POINTS)) {
            return REFUSED;
        }
        return contest.trials[e].worstFor(p);
    }

    public int top(int e) {
        return hasEvent(e) ? contest.trials[e].mostValue() : REFUSED;
    }

    public int same(int e, int mark, int other) {
        if (!hasEvent(e) || !hasEvent(other) || !isMark(mark)) {
            return REFUSED;
        }
        return contest.trials[other].worstFor(contest.trials[e].valueOf(mark));
    }

    public int step(int e, int mark) {
        if (!hasEvent(e) || !isMark(mark)) {
            return REFUSED;
        }
        Trial trial = contest.trials[e];
        int next = trial.worstFor(trial.valueOf(mark) + 1);
        return next == NONE ? NONE : Math.abs(next - mark);
    }

    public int mark(int a, int e) {
        return hasCell(a, e) ? contest.markOf(a, e) : REFUSED;
    }

    public int worth(int a, int e) {
        return hasCell(a, e) ? contest.valueOf(a, e) : REFUSED;
    }

    public int of(int a, int what) {
        if (!hasAthlete(a)) {
            return REFUSED;
        }
        Score own = standingsNow().scores[a];
        switch (what) {
            case 0:
                return own.sum + own.paid;
            case 1:
                return own.sum;
            case 2:
                return own.paid;
            case 3:
                return own.done;
            case 4:
                return own.most;
            case 5:
                return own.fewest;
            case 6:
                return own.firsts;
            default:
                return REFUSED;
        }
    }

    public int holds(int k, int a) {
        if (!hasBonus(k) || !hasAthlete(a)) {
            return REFUSED;
        }
        return contest.bonuses.isSo(k, scoreNow(a)) ? 1 : 0;
    }

    public int bonus(int k) {
        return hasBonus(k) ? contest.bonuses.amounts[k] : REFUSED;
    }

    public int place(int k) {
        if (!loaded || k < 0) {
            return REFUSED;
        }
        return standingsNow().athleteAt(k);
    }

    public int rank(int a) {
        return hasAthlete(a) ? standingsNow().placeOf(a) : REFUSED;
    }

    public int leads(int e) {
        return hasEvent(e) ? contest.athleteByMark(e, 0) : REFUSED;
    }

    public int dream() {
        if (!loaded) {
            return REFUSED;
        }
        int sum = 0;
        for (int e = 0; e < contest.events; e++) {
            int leader = contest.athleteByMark(e, 0);
            sum += leader == NONE ? 0 : contest.valueOf(leader, e);
        }
        return sum;
    }

    public int need(int a, int n) {
        if (!hasAthlete(a) || !isWithin(n, 0, MOST_TOTAL)) {
            return REFUSED;
        }
        Score own = scoreNow(a);
        int most = mostInOpen(a);
        for (int p = 0; p <= most; p++) {
            putInOpen(a, own, p);
            if (contest.bonuses.comesTo(own, n)) {
                return p;
            }
        }
        return NONE;
    }

    public int needIn(int a, int e, int n) {
        if (!hasCell(a, e) || !isWithin(n, 0, MOST_TOTAL)) {
            return REFUSED;
        }
        Score own = scoreNow(a);
        int most = contest.trials[e].mostValue();
        for (int p = 0; p <= most; p++) {
            own.put(e, p);
            if (contest.bonuses.comesTo(own, n)) {
                return p;
            }
        }
        return NONE;
    }

    public int pass(int a, int e, int other) {
        if (!hasCell(a, e) || !hasAthlete(other) || a == other) {
            return REFUSED;
        }
        Standings now = standingsNow();
        int goal = now.totalOf(other);
        int most = contest.trials[e].mostValue();
        for (int p = 0; p <= most; p++) {
            now.scores[a].put(e, p);
            if (contest.bonuses.comesTo(now.scores[a], goal) && isAheadNow(a, other)) {
                return p;
            }
        }
        return NONE;
    }

    public int trained(int a, int e, int h) {
        if (!hasCell(a, e) || !isWithin(h, 0, MOST_TRAINING)) {
            return REFUSED;
        }
        return contest.markAfter(a, e, h);
    }

    public int gains(int a, int e, int what) {
        if (!hasCell(a, e) || !isWithin(what, 0, 1)) {
            return REFUSED;
        }
        int cell = cellOf(a, e);
        return what == 0 ? contest.gainMost[cell] : contest.gainHours[cell];
    }

    public int pays(int a, int h) {
        if (!hasAthlete(a) || !isWithin(h, 1, MOST_TRAINING)) {
            return REFUSED;
        }
        int best = NONE;
        int most = 0;
        for (int e = 0; e < contest.events; e++) {
            int more = contest.valueAfter(a, e, h) - contest.valueOf(a, e);
            if (more > most) {
                most = more;
                best = e;
            }
        }
        return best;
    }

    public int spread(int a, int n, int e) {
        if (!hasAthlete(a) || !isWithin(n, 0, MOST_HOURS) || !isWithin(e, NONE, contest.events - 1)) {
            return REFUSED;
        }
        shareByEvent(a, n);
        return e == NONE ? byEvent.mostFor(n) : byEvent.shareOf(e, n);
    }

    public int hours(int a, int n) {
        if (!hasAthlete(a) || !isWithin(n, 0, MOST_TOTAL)) {
            return REFUSED;
        }
        shareByEvent(a, MOST_HOURS);
        for (int h = 0; h <= MOST_HOURS; h++) {
            if (byEvent.mostFor(h) >= n) {
                return h;
            }
        }
        return NONE;
    }

    public int meet(int seed, int k) {
        if (!loaded || seed < 0 || k < 0) {
            return REFUSED;
        }
        return standingsBy(seed).athleteAt(k);
    }

    public int met(int seed, int a) {
        if (!hasAthlete(a) || seed < 0) {
            return REFUSED;
        }
        return standingsBy(seed).totalOf(a);
    }

    public int odds(int s, int n, int a) {
        if (!hasAthlete(a) || s < 0 || !isWithin(n, 1, MOST_MEETS) || s > MOST_SEED - n) {
            return REFUSED;
        }
        int won = 0;
        for (int i = 0; i < n; i++) {
            won += standingsBy(s + i).placeOf(a) == 0 ? 1 : 0;
        }
        return won;
    }

    public int sets(int a, int e, int m) {
        if (!hasCell(a, e) || !isWithin(m, NONE, MOST_MARK)) {
            return REFUSED;
        }
        return changeMark(cellOf(a, e), m);
    }

    public int athlete() {
        if (!loaded) {
            return REFUSED;
        }
        if (contest.athletes >= MOST_ATHLETES) {
            return FULL;
        }
        history.note(ACT_ATHLETE, 0, 0, 0);
        return contest.addAthlete();
    }

    public int gain(int a, int e, int g, int h) {
        if (!hasCell(a, e) || !isMark(g) || !isWithin(h, 1, MOST_TRAINING)) {
            return REFUSED;
        }
        int cell = cellOf(a, e);
        int was = contest.gainMost[cell];
        if (was != g || contest.gainHours[cell] != h) {
            history.note(ACT_GAIN, cell, was, contest.gainHours[cell]);
            contest.gainMost[cell] = g;
            contest.gainHours[cell] = h;
        }
        return was;
    }

    public int trains(int a, int e, int h) {
        if (!hasCell(a, e) || !isWithin(h, 0, MOST_TRAINING)) {
            return REFUSED;
        }
        int after = contest.markAfter(a, e, h);
        changeMark(cellOf(a, e), after);
        return after;
    }

    public int tie(int t) {
        if (!loaded || !isWithin(t, TIE_NONE, TIE_WINS)) {
            return REFUSED;
        }
        int was = contest.tie;
        if (was != t) {
            history.note(ACT_TIE, 0, was, 0);
            contest.tie = t;
        }
        return was;
    }

    public int undo() {
        return history.takeBack(contest) ? history.size : NONE;
    }

    public int tell() {
        if (!loaded) {
            return REFUSED;
        }
        Standings now = standingsNow();
        out.clear();
        for (int k = 0; k < contest.athletes; k++) {
            int a = now.athleteAt(k);
            out.putNumber(a);
            out.put(BLANK);
            out.putNumber(now.totalOf(a));
            out.put(LINE_FEED);
        }
        return out.length;
    }

    public int card(int a) {
        if (!hasAthlete(a)) {
            return REFUSED;
        }
        out.clear();
        for (int e = 0; e < contest.events; e++) {
            if (e > 0) {
                out.put(BLANK);
            }
            if (contest.markOf(a, e) == NONE) {
                out.put(DASH);
            } else {
                out.putNumber(contest.valueOf(a, e));
            }
        }
        return out.length;
    }

    public int octet(int i) {
        return i >= 0 && i < out.length ? out.bytes[i] : NONE;
    }

    public int kth(int e, int k) {
        return hasEvent(e) && k >= 0 ? contest.athleteByMark(e, k) : REFUSED;
    }

    public int behind(int a) {
        if (!hasAthlete(a)) {
            return REFUSED;
        }
        Standings now = standingsNow();
        int worstEvent = NONE;
        int most = 0;
        for (int e = 0; e < contest.events; e++) {
            int fewer = now.mostIn(e) - now.scores[a].points[e];
            if (fewer > most) {
                most = fewer;
                worstEvent = e;
            }
        }
        return worstEvent;
    }

    public int hour(int a, int e, int h) {
        if (!hasCell(a, e) || !isWithin(h, 1, MOST_TRAINING)) {
            return REFUSED;
        }
        return contest.valueAfter(a, e, h) - contest.valueAfter(a, e, h - 1);
    }

    public int squad(int n, int a) {
        if (!loaded || !isWithin(n, 0, MOST_HOURS) || !isWithin(a, NONE, contest.athletes - 1)) {
            return REFUSED;
        }
        shareByAthlete(n);
        return a == NONE ? byAthlete.mostFor(n) : byAthlete.shareOf(a, n);
    }

    public int close() {
        if (!loaded) {
            return REFUSED;
        }
        Standings now = standingsNow();
        int pair = NONE;
        int least = 0;
        for (int a = 0; a < contest.athletes; a++) {
            for (int b = a + 1; b < contest.athletes; b++) {
                int apart = Math.abs(now.totalOf(a) - now.totalOf(b));
                if (pair == NONE || apart < least) {
                    least = apart;
                    pair = 10 * a + b;
                }
            }
        }
        return pair;
    }

    public int team(int set) {
        if (!loaded || set >> contest.athletes != 0) {
            return REFUSED;
        }
        Standings now = standingsNow();
        int sum = 0;
        for (int a = 0; a < contest.athletes; a++) {
            sum += (set >> a & 1) == 1 ? now.totalOf(a) : 0;
        }
        return sum;
    }

    public int kinds(int e, int from, int to) {
        if (!hasEvent(e) || !isMark(from) || !isMark(to) || !isWithin(to - from, 0, MOST_KINDS)) {
            return REFUSED;
        }
        Trial trial = contest.trials[e];
        int unlike = 1;
        int last = trial.valueOf(from);
        // POINTS never turn back along the MARKS, so like ones always stand side by side.
        for (int m = from + 1; m <= to; m++) {
            int next = trial.valueOf(m);
            unlike += next != last ? 1 : 0;
            last = next;
        }
        return unlike;
    }

    public int lent(int a, int e, int other) {
        if (!hasCell(a, e) || !hasAthlete(other)) {
            return REFUSED;
        }
        Score own = scoreNow(a);
        own.points[e] = contest.valueOf(other, e);
        own.marked[e] = contest.markOf(other, e) != NONE;
        own.reckon();
        contest.bonuses.pay(own);
        return own.sum + own.paid;
    }

    public int even(int n) {
        if (!loaded || !isWithin(n, 0, MOST_TOTAL)) {
            return REFUSED;
        }
        for (int e = 0; e < contest.events; e++) {
            tops[e] = contest.trials[e].mostValue();
        }
        for (int p = 0; p <= MOST_POINTS; p++) {
            if (sumOfTops(p) >= n) {
                return p;
            }
        }
        return NONE;
    }

    private void append(int four) {
        for (int shift = 24; shift >= 0; shift -= 8) {
            if (tapeLength < MOST_BYTES) {
                tape[tapeLength] = (byte) (four >> shift);
                tapeLength++;
            }
        }
    }

    // An object without a TEXT has an empty contest, so that no number passes the next four.
    private boolean hasEvent(int e) {
        return e >= 0 && e < contest.events;
    }

    private boolean hasAthlete(int a) {
        return a >= 0 && a < contest.athletes;
    }

    private boolean hasCell(int a, int e) {
        return hasAthlete(a) && hasEvent(e);
    }

    private boolean hasBonus(int k) {
        return k >= 0 && k < contest.bonuses.size;
    }

    private static boolean isMark(int n) {
        return isWithin(n, 0, MOST_MARK);
    }

    private static boolean isWithin(int n, int low, int high) {
        return n >= low && n <= high;
    }

    private static int cellOf(int a, int e) {
        return a * MOST_EVENTS + e;
    }

    private Score scoreNow(int a) {
        score.read(contest, contest.marks, a);
        return score;
    }

    private Standings standingsNow() {
        standings.read(contest, contest.marks);
        return standings;
    }

    private Standings standingsBy(int seed) {
        standings.readDrawn(contest, seed);
        return standings;
    }

    private boolean isAheadNow(int a, int other) {
        contest.bonuses.pay(standings.scores[a]);
        standings.countFirsts();
        return standings.isAhead(a, other);
    }

    private int mostInOpen(int a) {
        int most = MOST_POINTS;
        boolean open = false;
        for (int e = 0; e < contest.events; e++) {
            if (contest.markOf(a, e) == NONE) {
                open = true;
                most = Math.min(most, contest.trials[e].mostValue());
            }
        }
        // With a MARK everywhere each p is like the first one.
        return open ? most : 0;
    }

    private void putInOpen(int a, Score own, int p) {
        for (int e = 0; e < contest.events; e++) {
            if (contest.markOf(a, e) == NONE) {
                own.points[e] = p;
                own.marked[e] = true;
            }
        }
        own.reckon();
    }

    private void shareByEvent(int a, int n) {
        for (int e = 0; e < contest.events; e++) {
            for (int h = 0; h <= n; h++) {
                byEvent.worths[e][h] = contest.valueAfter(a, e, h);
            }
        }
        byEvent.settle(contest.events, n);
    }

    private void shareByAthlete(int n) {
        for (int a = 0; a < contest.athletes; a++) {
            shareByEvent(a, n);
            for (int h = 0; h <= n; h++) {
                byAthlete.worths[a][h] = byEvent.mostFor(h);
            }
        }
        byAthlete.settle(contest.athletes, n);
    }

    private int changeMark(int cell, int mark) {
        int was = contest.marks[cell];
        if (was != mark) {
            history.note(ACT_MARK, cell, was, 0);
            contest.marks[cell] = mark;
        }
        return was;
    }

    private int sumOfTops(int p) {
        int sum = 0;
        for (int e = 0; e < contest.events; e++) {
            sum += Math.min(p, tops[e]);
        }
        return sum;
    }

    /** One EVENT: its CURVE, and what MARKS are worth by it. */
    private static final class Trial {
        boolean moreIsBetter;
        int base;
        int curve;
        int factor;
        int divisor;
        int swing;
        int twos;
        final int[] ways = new int[MOST_TWOS];
        final int[] worths = new int[MOST_TWOS];

        int valueOf(int mark) {
            if (mark == NONE) {
                return 0;
            }
            int way = moreIsBetter ? mark - base : base - mark;
            if (way < 0) {
                return 0;
            }
            return curve == TABLE ? alongTable(way) : alongFormula(way);
        }

        private int alongFormula(int way) {
            if (divisor < 1) {
                return 0;
            }
            long rise = way;
            if (curve == SQUARE) {
                rise = (long) way * way;
            } else if (curve == ROOT) {
                rise = rootOf(100 * way);
            }
            return (int) Math.min(factor * rise / divisor, MOST_POINTS);
        }

        private static int rootOf(int n) {
            int root = 0;
            // 100 times the longest way is below 4096 times 4096.
            for (int bit = 2048; bit > 0; bit >>= 1) {
                int tried = root + bit;
                if (tried * tried <= n) {
                    root = tried;
                }
            }
            return root;
        }

        private int alongTable(int way) {
            int behind = 0;
            while (behind < twos && ways[behind] <= way) {
                behind++;
            }
            if (behind == 0) {
                return 0;
            }
            int worth = worths[behind - 1];
            if (behind >= twos) {
                return worth;
            }
            int distance = ways[behind] - ways[behind - 1];
            if (distance < 1) {
                return worth;
            }
            return worth + (way - ways[behind - 1]) * (worths[behind] - worth) / distance;
        }

        int mostValue() {
            return valueOf(moreIsBetter ? MOST_MARK : 0);
        }

        /** The worst MARK for p POINTS; NONE if no MARK is worth so much. */
        int worstFor(int p) {
            if (mostValue() < p) {
                return NONE;
            }
            int low = 0;
            int high = MOST_MARK;
            // POINTS never fall as MARKS become better, so halving finds the first; 17 halves are enough.
            for (int round = 0; round < 17 && low < high; round++) {
                int middle = (low + high) / 2;
                if (valueOf(markAt(middle)) >= p) {
                    high = middle;
                } else {
                    low = middle + 1;
                }
            }
            return markAt(low);
        }

        /** The MARK that is so many steps better than the worst of all. */
        private int markAt(int steps) {
            return moreIsBetter ? steps : MOST_MARK - steps;
        }

        boolean isBetter(int mark, int other) {
            return moreIsBetter ? mark > other : mark < other;
        }

        int betterBy(int mark, int way) {
            return moreIsBetter ? Math.min(MOST_MARK, mark + way) : Math.max(0, mark - way);
        }
    }

    /** All that a TEXT tells, and what the acts change of it. */
    private static final class Contest {
        final Trial[] trials = new Trial[MOST_EVENTS];
        final int[] marks = new int[CELLS];
        final int[] gainMost = new int[CELLS];
        final int[] gainHours = new int[CELLS];
        final Bonuses bonuses = new Bonuses();
        int events;
        int athletes;
        int tie;

        Contest() {
            for (int e = 0; e < MOST_EVENTS; e++) {
                trials[e] = new Trial();
            }
        }

        void clear() {
            events = 0;
            athletes = 0;
            tie = TIE_NONE;
            bonuses.clear();
        }

        int addAthlete() {
            int a = athletes;
            for (int e = 0; e < MOST_EVENTS; e++) {
                int cell = cellOf(a, e);
                marks[cell] = NONE;
                gainMost[cell] = NONE;
                gainHours[cell] = NONE;
            }
            athletes++;
            return a;
        }

        int markOf(int a, int e) {
            return marks[cellOf(a, e)];
        }

        int valueOf(int a, int e) {
            return trials[e].valueOf(markOf(a, e));
        }

        int markAfter(int a, int e, int h) {
            int cell = cellOf(a, e);
            int mark = marks[cell];
            int span = h + gainHours[cell];
            if (mark == NONE || gainMost[cell] == NONE || span < 1) {
                return mark;
            }
            return trials[e].betterBy(mark, gainMost[cell] * h / span);
        }

        int valueAfter(int a, int e, int h) {
            return trials[e].valueOf(markAfter(a, e, h));
        }

        int athleteByMark(int e, int k) {
            for (int a = 0; a < athletes; a++) {
                if (markOf(a, e) != NONE && betterThan(a, e) == k) {
                    return a;
                }
            }
            return NONE;
        }

        private int betterThan(int a, int e) {
            int mark = markOf(a, e);
            int ahead = 0;
            for (int b = 0; b < athletes; b++) {
                int other = markOf(b, e);
                if (other != NONE && (trials[e].isBetter(other, mark) || other == mark && b < a)) {
                    ahead++;
                }
            }
            return ahead;
        }
    }

    /** The bonuses: what each is, and its TEST as operations in the order in which they are worked. */
    private static final class Bonuses {
        final int[] amounts = new int[MOST_BONUSES];
        int size;
        private final int[] starts = new int[MOST_BONUSES + 1];
        private final int[] code = new int[MOST_BYTES];
        private int codeLength;
        private int sumOfAmounts;
        // Six levels, with three numbers that wait at most on each, stay far below this.
        private final int[] stack = new int[64];
        private int height;

        void clear() {
            size = 0;
            codeLength = 0;
            sumOfAmounts = 0;
        }

        void emit(int operation, int operand) {
            if (codeLength < code.length) {
                code[codeLength] = operation * OPERANDS + operand;
                codeLength++;
            }
        }

        /** What was emitted since the last one is the TEST of a bonus of so much. */
        void finish(int amount) {
            if (size < MOST_BONUSES) {
                amounts[size] = amount;
                sumOfAmounts += amount;
                size++;
                starts[size] = codeLength;
            }
        }

        boolean isSo(int k, Score score) {
            height = 0;
            for (int i = starts[k]; i < starts[k + 1]; i++) {
                int operation = code[i] / OPERANDS;
                if (operation <= OP_LEAST) {
                    push(score.word(operation, code[i] % OPERANDS));
                } else if (operation == OP_NOT) {
                    push(1 - pop());
                } else {
                    int right = pop();
                    push(join(operation, pop(), right));
                }
            }
            return pop() == 1;
        }

        private void push(int n) {
            if (height < stack.length) {
                stack[height] = n;
                height++;
            }
        }

        private int pop() {
            if (height < 1) {
                return 0;
            }
            height--;
            return stack[height];
        }

        private static int join(int operation, int left, int right) {
            switch (operation) {
                case OP_ADD:
                    return left + right;
                case OP_SUBTRACT:
                    return left - right;
                case OP_LESS:
                    return left < right ? 1 : 0;
                case OP_EQUAL:
                    return left == right ? 1 : 0;
                case OP_MORE:
                    return left > right ? 1 : 0;
                case OP_AND:
                    return left & right;
                default:
                    return left | right;
            }
        }

        void pay(Score score) {
            score.paid = 0;
            for (int k = 0; k < size; k++) {
                score.paid += isSo(k, score) ? amounts[k] : 0;
            }
        }

        /** Whether the TOTAL is n or more; the TESTS are worked only where they decide it. */
        boolean comesTo(Score score, int n) {
            if (score.sum >= n) {
                return true;
            }
            if (score.sum + sumOfAmounts < n) {
                return false;
            }
            pay(score);
            return score.sum + score.paid >= n;
        }
    }

    /** What one ATHLETE has, by MARKS that are or that might be. */
    private static final class Score {
        final int[] points = new int[MOST_EVENTS];
        final boolean[] marked = new boolean[MOST_EVENTS];
        int events;
        int sum;
        int done;
        int most;
        int fewest;
        int paid;
        int firsts;

        void read(Contest contest, int[] marks, int a) {
            events = contest.events;
            for (int e = 0; e < events; e++) {
                int mark = marks[cellOf(a, e)];
                points[e] = contest.trials[e].valueOf(mark);
                marked[e] = mark != NONE;
            }
            reckon();
        }

        void put(int e, int p) {
            points[e] = p;
            marked[e] = true;
            reckon();
        }

        void reckon() {
            sum = 0;
            done = 0;
            most = 0;
            fewest = 0;
            for (int e = 0; e < events; e++) {
                if (marked[e]) {
                    sum += points[e];
                    most = Math.max(most, points[e]);
                    fewest = done == 0 ? points[e] : Math.min(fewest, points[e]);
                    done++;
                }
            }
        }

        int word(int operation, int operand) {
            switch (operation) {
                case OP_POINTS:
                    return operand < events ? points[operand] : 0;
                case OP_TOTAL:
                    return sum;
                case OP_DONE:
                    return done;
                case OP_BEST:
                    return most;
                case OP_LEAST:
                    return fewest;
                default:
                    return operand;
            }
        }
    }

    /** What all ATHLETES have by the same MARKS, and their RANK by it. */
    private static final class Standings {
        final Score[] scores = new Score[MOST_ATHLETES];
        private int athletes;
        private int events;
        private int tie;
        private final int[] drawn = new int[CELLS];
        private long x;

        Standings() {
            for (int a = 0; a < MOST_ATHLETES; a++) {
                scores[a] = new Score();
            }
        }

        void read(Contest contest, int[] marks) {
            athletes = contest.athletes;
            events = contest.events;
            tie = contest.tie;
            for (int a = 0; a < athletes; a++) {
                scores[a].read(contest, marks, a);
                contest.bonuses.pay(scores[a]);
            }
            countFirsts();
        }

        /** The standings of a MEET. */
        void readDrawn(Contest contest, int seed) {
            x = seed;
            for (int a = 0; a < contest.athletes; a++) {
                for (int e = 0; e < contest.events; e++) {
                    int mark = contest.markOf(a, e);
                    drawn[cellOf(a, e)] = mark == NONE ? NONE : swung(mark, contest.trials[e].swing);
                }
            }
            read(contest, drawn);
        }

        private int swung(int mark, int swing) {
            int to = mark + draw(2 * swing + 1) - swing;
            return Math.max(0, Math.min(MOST_MARK, to));
        }

        private int draw(int m) {
            x = (1103515245L * x + 12345L) & 2147483647L;
            return m < 1 ? 0 : (int) (x / 64 % m);
        }

        void countFirsts() {
            for (int a = 0; a < athletes; a++) {
                scores[a].firsts = 0;
            }
            for (int e = 0; e < events; e++) {
                int most = mostIn(e);
                for (int a = 0; a < athletes; a++) {
                    if (most > 0 && scores[a].points[e] == most) {
                        scores[a].firsts++;
                    }
                }
            }
        }

        int mostIn(int e) {
            int most = 0;
            for (int a = 0; a < athletes; a++) {
                most = Math.max(most, scores[a].points[e]);
            }
            return most;
        }

        int totalOf(int a) {
            return isWithin(a, 0, athletes - 1) ? scores[a].sum + scores[a].paid : 0;
        }

        boolean isAhead(int a, int b) {
            int more = totalOf(a) - totalOf(b);
            if (more == 0 && tie == TIE_BEST) {
                more = scores[a].most - scores[b].most;
            } else if (more == 0 && tie == TIE_WINS) {
                more = scores[a].firsts - scores[b].firsts;
            }
            return more == 0 ? a < b : more > 0;
        }

        int placeOf(int a) {
            int ahead = 0;
            for (int b = 0; b < athletes; b++) {
                ahead += b != a && isAhead(b, a) ? 1 : 0;
            }
            return ahead;
        }

        int athleteAt(int k) {
            for (int a = 0; a < athletes; a++) {
                if (placeOf(a) == k) {
                    return a;
                }
            }
            return NONE;
        }
    }

    /** Hours shared out over rows, all of them, so that what the rows are worth together is most. */
    private static final class Shares {
        final int[][] worths = new int[MOST_EVENTS][MOST_HOURS + 1];
        private final int[][] bests = new int[MOST_EVENTS][MOST_HOURS + 1];
        private int rows;

        /** Works out, for 0 .. n hours, the most of each row and those behind it together. */
        void settle(int rowsNow, int n) {
            rows = rowsNow;
            for (int row = rows - 1; row >= 0; row--) {
                for (int h = 0; h <= n; h++) {
                    bests[row][h] = row == rows - 1 ? worths[row][h] : bestFrom(row, h);
                }
            }
        }

        private int bestFrom(int row, int n) {
            int best = 0;
            for (int h = 0; h <= n; h++) {
                best = Math.max(best, worths[row][h] + bests[row + 1][n - h]);
            }
            return best;
        }

        int mostFor(int n) {
            return rows == 0 ? 0 : bests[0][n];
        }

        int shareOf(int row, int n) {
            int left = n;
            for (int ahead = 0; ahead < row; ahead++) {
                left -= fewestFor(ahead, left);
            }
            return fewestFor(row, left);
        }

        private int fewestFor(int row, int n) {
            if (row >= rows - 1) {
                return n;
            }
            for (int h = 0; h <= n; h++) {
                if (worths[row][h] + bests[row + 1][n - h] == bests[row][n]) {
                    return h;
                }
            }
            return n;
        }
    }

    /** The latest acts, each with what was there before it. */
    private static final class History {
        private final int[] acts = new int[MOST_UNDONE];
        private final int[] cells = new int[MOST_UNDONE];
        private final int[] firsts = new int[MOST_UNDONE];
        private final int[] seconds = new int[MOST_UNDONE];
        int size;

        void clear() {
            size = 0;
        }

        void note(int act, int cell, int first, int second) {
            if (size >= MOST_UNDONE) {
                forgetOldest();
            }
            acts[size] = act;
            cells[size] = cell;
            firsts[size] = first;
            seconds[size] = second;
            size++;
        }

        private void forgetOldest() {
            size = MOST_UNDONE - 1;
            System.arraycopy(acts, 1, acts, 0, size);
            System.arraycopy(cells, 1, cells, 0, size);
            System.arraycopy(firsts, 1, firsts, 0, size);
            System.arraycopy(seconds, 1, seconds, 0, size);
        }

        boolean takeBack(Contest contest) {
            if (size < 1) {
                return false;
            }
            size--;
            int cell = cells[size];
            if (acts[size] == ACT_MARK) {
                contest.marks[cell] = firsts[size];
            } else if (acts[size] == ACT_GAIN) {
                contest.gainMost[cell] = firsts[size];
                contest.gainHours[cell] = seconds[size];
            } else if (acts[size] == ACT_TIE) {
                contest.tie = firsts[size];
            } else if (contest.athletes > 0) {
                contest.athletes--;
            }
            return true;
        }
    }

    /** OUT. */
    private static final class Page {
        // Eight rows of eight bytes are the most that is ever told.
        final byte[] bytes = new byte[64];
        int length;

        void clear() {
            length = 0;
        }

        void put(int sign) {
            if (length < bytes.length) {
                bytes[length] = (byte) sign;
                length++;
            }
        }

        void putNumber(int n) {
            int unit = 1;
            for (int digit = 1; digit < 9 && n / unit >= 10; digit++) {
                unit *= 10;
            }
            while (unit > 0) {
                put('0' + n / unit % 10);
                unit /= 10;
            }
        }
    }

    /** All that a TOKEN can be; the last three have no spelling of their own. */
    private enum Sign {
        EVENT("event"), RUN("run"), FIELD("field"), BASE("base"), BY("by"), SPREAD("spread"),
        LINE_BY("line"), SQUARE_BY("square"), ROOT_BY("root"), TABLE_OF("table"),
        TIE("tie"), NO_RULE("none"), BEST("best"), WINS("wins"),
        BONUS("bonus"), WHEN("when"), ATHLETE("athlete"), MARK("mark"), GAIN("gain"), IN("in"),
        OR("or"), AND("and"), NOT("not"), POINTS("points"), TOTAL("total"), DONE("done"), LEAST("least"),
        SEMICOLON(";"), COLON(":"), COMMA(","), LESS("<"), EQUAL("="), MORE(">"), PLUS("+"), MINUS("-"),
        TEST_OPENS("["), TEST_CLOSES("]"), SUM_OPENS("("), SUM_CLOSES(")"),
        NUMBER(""), STRANGE(""), END("");

        final String spelling;

        Sign(String spelling) {
            this.spelling = spelling;
        }

        boolean isSpelled(byte[] tape, int from, int to) {
            if (spelling.length() != to - from) {
                return false;
            }
            for (int i = from; i < to; i++) {
                if (spelling.charAt(i - from) != tape[i]) {
                    return false;
                }
            }
            return true;
        }
    }

    /** The TOKENS of a TAPE, with an END behind them. */
    private static final class Tokens {
        // More than any number's bounds, and ten times it is still a number.
        private static final int TOO_MUCH = 1000000;

        final Sign[] signs = new Sign[MOST_BYTES + 1];
        final int[] places = new int[MOST_BYTES + 1];
        final int[] numbers = new int[MOST_BYTES + 1];
        int size;
        private final Sign[] known = Sign.values();

        void split(byte[] tape, int length) {
            size = 0;
            int at = 0;
            while (at < length) {
                int to = endOf(tape, at, length);
                if (tape[at] != BLANK && tape[at] != LINE_FEED) {
                    add(tape, at, to);
                }
                at = Math.max(to, at + 1);
            }
            signs[size] = Sign.END;
            places[size] = length;
        }

        private static int endOf(byte[] tape, int at, int length) {
            int to = at + 1;
            if (isLetter(tape[at])) {
                while (to < length && isLetter(tape[to])) {
                    to++;
                }
            } else if (isDigit(tape[at])) {
                while (to < length && isDigit(tape[to])) {
                    to++;
                }
            }
            return to;
        }

        private static boolean isLetter(byte b) {
            return b >= 'a' && b <= 'z';
        }

        private static boolean isDigit(byte b) {
            return b >= '0' && b <= '9';
        }

        private void add(byte[] tape, int from, int to) {
            if (size >= MOST_BYTES) {
                return;
            }
            places[size] = from;
            if (isDigit(tape[from])) {
                signs[size] = Sign.NUMBER;
                numbers[size] = numberOf(tape, from, to);
            } else {
                signs[size] = signOf(tape, from, to);
            }
            size++;
        }

        private static int numberOf(byte[] tape, int from, int to) {
            int number = 0;
            for (int i = from; i < to; i++) {
                number = Math.min(TOO_MUCH, number * 10 + tape[i] - '0');
            }
            return number;
        }

        private Sign signOf(byte[] tape, int from, int to) {
            for (int i = 0; i < known.length; i++) {
                if (known[i].isSpelled(tape, from, to)) {
                    return known[i];
                }
            }
            return Sign.STRANGE;
        }
    }

    /** Reads a TEXT; each method that reads a part answers whether it stood there without a FAULT. */
    private static final class Reader {
        int fault;
        int place = NONE;
        private final Tokens tokens = new Tokens();
        private Contest draft = new Contest();
        private int at;
        private int number;
        private int cell;
        private boolean tieTold;

        /** How many LINES were read, or FAULTY. */
        int readAll(byte[] tape, int length) {
            tokens.split(tape, length);
            draft.clear();
            at = 0;
            tieTold = false;
            fault = 0;
            place = NONE;
            int lines = 0;
            while (lines < MOST_BYTES && !sees(Sign.END)) {
                if (!readLine() || !take(Sign.SEMICOLON)) {
                    return FAULTY;
                }
                lines++;
            }
            return lines;
        }

        /** Hands out what was read, and keeps the old one to read the next TEXT into. */
        Contest exchange(Contest old) {
            Contest read = draft;
            draft = old;
            return read;
        }

        private boolean sees(Sign sign) {
            return tokens.signs[at] == sign;
        }

        private boolean advance() {
            if (at < tokens.size) {
                at++;
            }
            return true;
        }

        private boolean refuse(int kind) {
            fault = kind;
            place = tokens.places[at];
            return false;
        }

        private boolean take(Sign sign) {
            return sees(sign) ? advance() : refuse(MISPLACED);
        }

        private boolean takeNumber(int low, int high) {
            if (!sees(Sign.NUMBER)) {
                return refuse(MISPLACED);
            }
            number = tokens.numbers[at];
            return isWithin(number, low, high) ? advance() : refuse(OUT_OF_BOUNDS);
        }

        private boolean takeCell() {
            if (!takeNumber(0, draft.athletes - 1)) {
                return false;
            }
            int a = number;
            if (!takeNumber(0, draft.events - 1)) {
                return false;
            }
            cell = cellOf(a, number);
            return true;
        }

        private boolean readLine() {
            if (sees(Sign.EVENT)) {
                return draft.events < MOST_EVENTS ? readEvent() : refuse(TOO_MANY);
            }
            if (sees(Sign.TIE)) {
                return tieTold ? refuse(TIE_AGAIN) : readTie();
            }
            if (sees(Sign.BONUS)) {
                return draft.bonuses.size < MOST_BONUSES ? readBonus() : refuse(TOO_MANY);
            }
            if (sees(Sign.ATHLETE)) {
                return draft.athletes < MOST_ATHLETES ? readAthlete() : refuse(TOO_MANY);
            }
            if (sees(Sign.MARK)) {
                return readMark();
            }
            return sees(Sign.GAIN) ? readGain() : refuse(MISPLACED);
        }

        private boolean readEvent() {
            advance();
            Trial trial = draft.trials[draft.events];
            trial.moreIsBetter = sees(Sign.FIELD);
            if (!take(trial.moreIsBetter ? Sign.FIELD : Sign.RUN) || !take(Sign.BASE) || !takeNumber(0, MOST_MARK)) {
                return false;
            }
            trial.base = number;
            boolean isRead = sees(Sign.TABLE_OF) ? readTable(trial) : readFormula(trial);
            if (!isRead) {
                return false;
            }
            trial.swing = 0;
            if (sees(Sign.SPREAD)) {
                advance();
                if (!takeNumber(0, MOST_SPREAD)) {
                    return false;
                }
                trial.swing = number;
            }
            draft.events++;
            return true;
        }

        private boolean readFormula(Trial trial) {
            if (sees(Sign.LINE_BY)) {
                trial.curve = LINE;
            } else if (sees(Sign.SQUARE_BY)) {
                trial.curve = SQUARE;
            } else if (sees(Sign.ROOT_BY)) {
                trial.curve = ROOT;
            } else {
                return refuse(MISPLACED);
            }
            advance();
            if (!takeNumber(1, MOST_FACTOR)) {
                return false;
            }
            trial.factor = number;
            if (!take(Sign.BY) || !takeNumber(1, MOST_DIVISOR)) {
                return false;
            }
            trial.divisor = number;
            return true;
        }

        private boolean readTable(Trial trial) {
            trial.curve = TABLE;
            trial.twos = 0;
            boolean goesOn = true;
            // The round for a two too many is there to refuse it.
            for (int round = 0; round <= MOST_TWOS && goesOn; round++) {
                // Here stands the word table, or a comma.
                advance();
                if (!readTwo(trial)) {
                    return false;
                }
                goesOn = sees(Sign.COMMA);
            }
            return true;
        }

        private boolean readTwo(Trial trial) {
            int two = trial.twos;
            int leastWay = two > 0 ? trial.ways[two - 1] + 1 : 0;
            int leastWorth = two > 0 ? trial.worths[two - 1] : 0;
            if (!takeNumber(leastWay, MOST_MARK)) {
                return false;
            }
            if (two >= MOST_TWOS) {
                // The number itself was in its bounds: only now may its place be told as one two too many.
                at--;
                return refuse(TOO_MANY);
            }
            trial.ways[two] = number;
            if (!take(Sign.COLON) || !takeNumber(leastWorth, MOST_POINTS)) {
                return false;
            }
            trial.worths[two] = number;
            trial.twos++;
            return true;
        }

        private boolean readTie() {
            advance();
            tieTold = true;
            if (sees(Sign.NO_RULE)) {
                draft.tie = TIE_NONE;
            } else if (sees(Sign.BEST)) {
                draft.tie = TIE_BEST;
            } else if (sees(Sign.WINS)) {
                draft.tie = TIE_WINS;
            } else {
                return refuse(MISPLACED);
            }
            return advance();
        }

        private boolean readAthlete() {
            draft.addAthlete();
            return advance();
        }

        private boolean readMark() {
            advance();
            if (!takeCell() || !takeNumber(0, MOST_MARK)) {
                return false;
            }
            draft.marks[cell] = number;
            return true;
        }

        private boolean readGain() {
            advance();
            if (!takeCell() || !takeNumber(0, MOST_MARK)) {
                return false;
            }
            draft.gainMost[cell] = number;
            if (!take(Sign.IN) || !takeNumber(1, MOST_TRAINING)) {
                return false;
            }
            draft.gainHours[cell] = number;
            return true;
        }

        private boolean readBonus() {
            advance();
            if (!takeNumber(1, MOST_BONUS)) {
                return false;
            }
            int amount = number;
            if (!take(Sign.WHEN) || !readTest(0)) {
                return false;
            }
            draft.bonuses.finish(amount);
            return true;
        }

        // In the next seven, within tells how many not, [ and ( stand open around the part.
        private boolean readTest(int within) {
            if (!readSide(within)) {
                return false;
            }
            for (int round = 0; round < MOST_BYTES && sees(Sign.OR); round++) {
                advance();
                if (!readSide(within)) {
                    return false;
                }
                draft.bonuses.emit(OP_OR, 0);
            }
            return true;
        }

        private boolean readSide(int within) {
            if (!readFact(within)) {
                return false;
            }
            for (int round = 0; round < MOST_BYTES && sees(Sign.AND); round++) {
                advance();
                if (!readFact(within)) {
                    return false;
                }
                draft.bonuses.emit(OP_AND, 0);
            }
            return true;
        }

        private boolean readFact(int within) {
            if (sees(Sign.NOT)) {
                return readNegation(within);
            }
            if (sees(Sign.TEST_OPENS)) {
                return readBracket(within);
            }
            if (!readSum(within)) {
                return false;
            }
            int operation = OP_MORE;
            if (sees(Sign.LESS)) {
                operation = OP_LESS;
            } else if (sees(Sign.EQUAL)) {
                operation = OP_EQUAL;
            } else if (!sees(Sign.MORE)) {
                return refuse(MISPLACED);
            }
            advance();
            if (!readSum(within)) {
                return false;
            }
            draft.bonuses.emit(operation, 0);
            return true;
        }

        private boolean readNegation(int within) {
            if (within >= MOST_WITHIN) {
                return refuse(TOO_MANY);
            }
            advance();
            if (!readFact(within + 1)) {
                return false;
            }
            draft.bonuses.emit(OP_NOT, 0);
            return true;
        }

        private boolean readBracket(int within) {
            if (within >= MOST_WITHIN) {
                return refuse(TOO_MANY);
            }
            advance();
            return readTest(within + 1) && take(Sign.TEST_CLOSES);
        }

        private boolean readSum(int within) {
            if (!readTerm(within)) {
                return false;
            }
            for (int round = 0; round < MOST_BYTES && (sees(Sign.PLUS) || sees(Sign.MINUS)); round++) {
                int operation = sees(Sign.PLUS) ? OP_ADD : OP_SUBTRACT;
                advance();
                if (!readTerm(within)) {
                    return false;
                }
                draft.bonuses.emit(operation, 0);
            }
            return true;
        }

        private boolean readTerm(int within) {
            if (sees(Sign.SUM_OPENS)) {
                if (within >= MOST_WITHIN) {
                    return refuse(TOO_MANY);
                }
                advance();
                return readSum(within + 1) && take(Sign.SUM_CLOSES);
            }
            if (sees(Sign.POINTS)) {
                advance();
                if (!takeNumber(0, draft.events - 1)) {
                    return false;
                }
                draft.bonuses.emit(OP_POINTS, number);
                return true;
            }
            if (sees(Sign.NUMBER)) {
                if (!takeNumber(0, MOST_MARK)) {
                    return false;
                }
                draft.bonuses.emit(OP_NUMBER, number);
                return true;
            }
            return readWord();
        }

        private boolean readWord() {
            int operation = OP_TOTAL;
            if (sees(Sign.DONE)) {
                operation = OP_DONE;
            } else if (sees(Sign.BEST)) {
                operation = OP_BEST;
            } else if (sees(Sign.LEAST)) {
                operation = OP_LEAST;
            } else if (!sees(Sign.TOTAL)) {
                return refuse(MISPLACED);
            }
            draft.bonuses.emit(operation, 0);
            return advance();
        }
    }
}
