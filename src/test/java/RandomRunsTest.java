import java.lang.reflect.Method;
import java.nio.charset.StandardCharsets;
import java.util.Arrays;
import java.util.ArrayList;
import java.util.List;
import java.util.Random;
import java.util.TreeMap;

/** Runs of calls by chance (always the same ones), each answer compared with the one of Plain. */
public final class RandomRunsTest {
    private static final String[] QUERIES = {
        "fault", "count", "event", "points", "worst", "top", "same", "step", "mark", "worth", "of", "holds", "bonus",
        "place", "rank", "leads", "dream", "need", "needIn", "pass", "trained", "gains", "pays", "spread", "hours",
        "meet", "met", "odds", "tell", "card", "octet", "kth", "behind", "hour", "squad", "close", "team", "kinds",
        "lent", "even"};
    private static final String[] ACTS = {"sets", "athlete", "gain", "trains", "tie", "undo", "sets", "gain", "trains"};
    private static final TreeMap<String, Method> METHODS = new TreeMap<>();

    private final Random random;
    private final TenTrials trials = new TenTrials();
    private final Plain plain = new Plain();
    private final List<String> calls = new ArrayList<>();

    private RandomRunsTest(long seed) {
        random = new Random(seed);
    }

    public static void main(String[] args) throws ReflectiveOperationException {
        int runs = args.length > 0 ? Integer.parseInt(args[0]) : 300;
        long first = args.length > 1 ? Long.parseLong(args[1]) : 0;
        for (Method method : TenTrials.class.getDeclaredMethods()) {
            if (java.lang.reflect.Modifier.isPublic(method.getModifiers())) {
                METHODS.put(method.getName(), method);
            }
        }
        int wrong = 0;
        for (int run = 0; run < runs && wrong < 5; run++) {
            String fault = new RandomRunsTest(first + run).run(run);
            if (fault != null) {
                wrong++;
                System.out.println("run " + (first + run) + ": " + fault);
            }
        }
        System.out.println("RandomRunsTest: " + runs + " runs, " + wrong + " not as due");
        if (wrong != 0) {
            System.exit(1);
        }
    }

    private String run(int number) throws ReflectiveOperationException {
        // Some runs go near the 512 calls for which an object is used.
        int length = number % 5 == 0 ? 450 : 200;
        while (calls.size() < length) {
            String fault;
            int kind = random.nextInt(100);
            if (calls.isEmpty() && number % 10 != 0 || kind < 3) {
                fault = type(text(), true);
            } else if (kind < 6) {
                fault = type(broken(text()), random.nextInt(8) != 0);
            } else if (kind < 30) {
                fault = call(ACTS[random.nextInt(ACTS.length)]);
            } else {
                fault = call(QUERIES[random.nextInt(QUERIES.length)]);
            }
            if (fault != null) {
                return fault + " in " + calls;
            }
        }
        return null;
    }

    private String compare(String name, int... args) throws ReflectiveOperationException {
        Object[] boxed = new Object[args.length];
        for (int i = 0; i < args.length; i++) {
            boxed[i] = args[i];
        }
        calls.add(name + Arrays.toString(args));
        int got = (Integer) METHODS.get(name).invoke(trials, boxed);
        int want = plain.call(name, args);
        return got == want ? null : "the last call answered " + got + ", due is " + want;
    }

    private String type(String text, boolean ends) throws ReflectiveOperationException {
        calls.add("\"" + text + "\"");
        byte[] bytes = text.getBytes(StandardCharsets.ISO_8859_1);
        String fault = null;
        for (int i = 0; i < bytes.length && fault == null; i += 20) {
            fault = compare("feed", Check.four(bytes, i), Check.four(bytes, i + 4), Check.four(bytes, i + 8),
                Check.four(bytes, i + 12), Check.four(bytes, i + 16));
        }
        if (fault == null && ends) {
            fault = compare("end", bytes.length);
        }
        if (fault == null) {
            fault = compare("text");
        }
        if (fault == null) {
            fault = compare("fault", 0);
        }
        return fault == null ? compare("fault", 1) : fault;
    }

    private String call(String name) throws ReflectiveOperationException {
        switch (name) {
            case "dream", "close", "tell", "athlete", "undo":
                return compare(name);
            case "fault":
                return compare(name, random.nextInt(5) - 2);
            case "count":
                return compare(name, random.nextInt(10) - 1);
            case "event":
                return compare(name, e(), random.nextInt(8) - 1);
            case "points", "step":
                return compare(name, e(), mark());
            case "worst":
                return compare(name, e(), some(2000));
            case "top", "leads":
                return compare(name, e());
            case "same":
                return compare(name, e(), mark(), e());
            case "mark", "worth":
                return compare(name, a(), e());
            case "of":
                return compare(name, a(), random.nextInt(9) - 1);
            case "holds":
                return compare(name, random.nextInt(6) - 1, a());
            case "bonus":
                return compare(name, random.nextInt(6) - 1);
            case "place":
                return compare(name, random.nextInt(10) - 1);
            case "rank", "card", "behind":
                return compare(name, a());
            case "need", "hours":
                return compare(name, a(), total());
            case "needIn":
                return compare(name, a(), e(), total());
            case "pass", "lent":
                return compare(name, a(), e(), a());
            case "trained", "hour", "trains":
                return compare(name, a(), e(), some(999));
            case "gains":
                return compare(name, a(), e(), random.nextInt(4) - 1);
            case "pays":
                return compare(name, a(), some(999));
            case "spread":
                return compare(name, a(), some(60), e());
            case "meet":
                return compare(name, seed(), random.nextInt(6) - 1);
            case "met":
                return compare(name, seed(), a());
            case "odds":
                return compare(name, seed(), some(40), a());
            case "octet":
                return compare(name, random.nextInt(30) - 2);
            case "kth":
                return compare(name, e(), random.nextInt(6) - 1);
            case "squad":
                return compare(name, some(random.nextInt(3) == 0 ? 60 : 12), a());
            case "team":
                return compare(name, random.nextInt(6) == 0 ? random.nextInt() : random.nextInt(16));
            case "kinds": {
                int from = mark();
                return compare(name, e(), from, from + some(2000));
            }
            case "even":
                return compare(name, total());
            case "sets":
                return compare(name, a(), e(), random.nextInt(5) == 0 ? -1 : mark());
            case "gain":
                return compare(name, a(), e(), mark(), some(999));
            case "tie":
                return compare(name, random.nextInt(5) - 1);
            default:
                throw new IllegalArgumentException(name);
        }
    }

    private int e() {
        return random.nextInt(20) == 0 ? random.nextInt(13) - 2 : random.nextInt(5) - 1;
    }

    private int a() {
        return random.nextInt(20) == 0 ? random.nextInt(11) - 2 : random.nextInt(5) - 1;
    }

    /** 0 .. most, rarely just outside, often small or at an end. */
    private int some(int most) {
        switch (random.nextInt(12)) {
            case 0:
                return -1;
            case 1:
                return most + 1;
            case 2:
                return most;
            case 3:
                return 0;
            case 4, 5, 6:
                return random.nextInt(12);
            default:
                return random.nextInt(most + 1);
        }
    }

    private int mark() {
        return random.nextInt(3) == 0 ? some(99999) : 900 + random.nextInt(200);
    }

    private int total() {
        return random.nextInt(8) == 0 ? some(99999) : random.nextInt(3000);
    }

    private int seed() {
        return random.nextInt(10) == 0 ? 2147483647 - random.nextInt(60) : random.nextInt(12) == 0 ? -1 : random.nextInt(100000);
    }

    // ---- texts

    private String text() {
        StringBuilder text = new StringBuilder();
        int events = random.nextInt(12) == 0 ? random.nextInt(11) : random.nextInt(5);
        int athletes = random.nextInt(12) == 0 ? random.nextInt(9) : random.nextInt(4);
        for (int e = 0; e < events; e++) {
            text.append(event());
        }
        for (int a = 0; a < athletes; a++) {
            text.append("athlete;");
        }
        for (int i = random.nextInt(12); i > 0 && events > 0 && athletes > 0; i--) {
            text.append("mark ").append(random.nextInt(athletes)).append(' ').append(random.nextInt(events))
                .append(' ').append(random.nextInt(4) == 0 ? random.nextInt(100000) : 900 + random.nextInt(200)).append(";");
        }
        for (int i = random.nextInt(8); i > 0 && events > 0 && athletes > 0; i--) {
            text.append("gain ").append(random.nextInt(athletes)).append(' ').append(random.nextInt(events))
                .append(' ').append(random.nextInt(4) == 0 ? random.nextInt(100000) : random.nextInt(200)).append(" in ")
                .append(1 + random.nextInt(random.nextInt(3) == 0 ? 999 : 30)).append(";\n");
        }
        for (int i = random.nextInt(4); i > 0; i--) {
            text.append("bonus ").append(1 + random.nextInt(500)).append(" when ").append(test(0, events)).append(";");
        }
        if (random.nextBoolean()) {
            text.append("tie ").append(List.of("none", "best", "wins").get(random.nextInt(3))).append(";");
        }
        return text.length() <= 1200 ? text.toString() : "";
    }

    private String event() {
        boolean far = random.nextInt(5) == 0;
        StringBuilder text = new StringBuilder("event ");
        text.append(random.nextBoolean() ? "run" : "field").append(" base ").append(far ? random.nextInt(100000) : 900 + random.nextInt(200));
        String curve = List.of("line", "square", "root", "table").get(random.nextInt(4));
        text.append(' ').append(curve);
        if (curve.equals("table")) {
            int way = random.nextInt(20);
            int worth = random.nextInt(100);
            for (int i = 1 + random.nextInt(random.nextInt(4) == 0 ? 8 : 3); i > 0; i--) {
                text.append(' ').append(way).append(':').append(worth).append(i > 1 ? "," : "");
                way += 1 + random.nextInt(60);
                worth = Math.min(2000, worth + (random.nextInt(4) == 0 ? 0 : random.nextInt(200)));
            }
        } else {
            text.append(' ').append(1 + random.nextInt(far ? 9999 : 20)).append(" by ").append(1 + random.nextInt(far ? 99999 : 50));
        }
        if (random.nextBoolean()) {
            text.append(" spread ").append(random.nextInt(far ? 1000 : 30));
        }
        return text.append(";").toString();
    }

    private String test(int open, int events) {
        String text = side(open, events);
        while (random.nextInt(3) == 0 && open < 4) {
            text += " or " + side(open + 1, events);
        }
        return text;
    }

    private String side(int open, int events) {
        String text = fact(open, events);
        while (random.nextInt(3) == 0 && open < 4) {
            text += " and " + fact(open + 1, events);
        }
        return text;
    }

    private String fact(int open, int events) {
        if (open < 6 && random.nextInt(4) == 0) {
            return "not " + fact(open + 1, events);
        }
        if (open < 6 && random.nextInt(4) == 0) {
            return "[" + test(open + 1, events) + "]";
        }
        return sum(open, events) + "<=>".charAt(random.nextInt(3)) + sum(open, events);
    }

    private String sum(int open, int events) {
        String text = term(open, events);
        while (random.nextInt(3) == 0) {
            text += (random.nextBoolean() ? " + " : " - ") + term(open, events);
        }
        return text;
    }

    private String term(int open, int events) {
        switch (random.nextInt(7)) {
            case 0:
                return "total";
            case 1:
                return "done";
            case 2:
                return "best";
            case 3:
                return "least";
            case 4:
                return events > 0 ? "points " + random.nextInt(events) : "total";
            case 5:
                return open < 6 ? "(" + sum(open + 1, events) + ")" : "done";
            default:
                return String.valueOf(random.nextInt(random.nextBoolean() ? 10 : 600));
        }
    }

    private String broken(String text) {
        StringBuilder broken = new StringBuilder(text);
        for (int i = 1 + random.nextInt(2); i > 0; i--) {
            int at = random.nextInt(broken.length() + 1);
            switch (random.nextInt(6)) {
                case 0:
                    broken.insert(at, (char) random.nextInt(256));
                    break;
                case 1:
                    broken.delete(at, Math.min(broken.length(), at + 1 + random.nextInt(4)));
                    break;
                case 2:
                    broken.insert(at, List.of("9", "0", "100000", "event ", "tie best;", "athlete;", "[", "(", "not ", ";", ",", "; ", " 5", "99999999999").get(random.nextInt(14)));
                    break;
                case 3:
                    broken.setLength(at);
                    break;
                case 4:
                    broken.append("event run base 5 table 1:1,2:2,3:3,4:4,5:5,6:6,7:7,8:8,").append(random.nextInt(12)).append(":9;");
                    break;
                default: {
                    int from = random.nextInt(broken.length() + 1);
                    broken.insert(at, broken.substring(Math.min(from, broken.length()), Math.min(broken.length(), from + random.nextInt(30))));
                }
            }
        }
        return broken.length() <= 1200 ? broken.toString() : "x";
    }
}
