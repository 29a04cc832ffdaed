import java.lang.reflect.InvocationTargetException;
import java.lang.reflect.Method;
import java.nio.charset.StandardCharsets;
import java.util.Arrays;
import java.util.Comparator;
import java.util.Map;
import java.util.function.Supplier;
import java.util.function.ToIntFunction;

/** What the tests share: running them, comparing answers, and telling a text to an object. */
final class Check {
    private int wrong;
    private int checks;

    void due(String call, int want, int got) {
        checks++;
        if (got != want) {
            wrong++;
            System.out.println(call + " answered " + got + ", due is " + want);
        }
    }

    /** Runs every method that is marked as a test of a sentence, and ends the program. */
    void run(Class<?> tests) throws IllegalAccessException {
        Method[] methods = tests.getDeclaredMethods();
        Arrays.sort(methods, Comparator.comparing(Method::getName));
        for (Method method : methods) {
            if (method.isAnnotationPresent(Sentence.class)) {
                runOne(method);
            }
        }
        end(tests.getSimpleName());
    }

    private void runOne(Method method) throws IllegalAccessException {
        int before = checks;
        method.setAccessible(true);
        try {
            method.invoke(null);
        } catch (InvocationTargetException thrown) {
            wrong++;
            System.out.println(method.getName() + " threw " + thrown.getCause());
        }
        if (checks == before) {
            wrong++;
            System.out.println(method.getName() + " looked at nothing");
        }
    }

    /** A call with the answer that is due, after which all else is as it was. */
    void stays(String call, int want, Supplier<TenTrials> made, ToIntFunction<TenTrials> called) {
        due(call, want, called.applyAsInt(made.get()));
        same(call, Picture.of(made), Picture.of(() -> {
            TenTrials x = made.get();
            called.applyAsInt(x);
            return x;
        }));
    }

    /** Two pictures that must be alike. */
    void same(String after, Map<String, Integer> want, Map<String, Integer> got) {
        due("what can be seen after " + after, want.size(), got.size());
        for (String call : want.keySet()) {
            due(call + " after " + after, want.get(call), got.getOrDefault(call, Integer.MIN_VALUE));
        }
    }

    /** Ends the program, with exit code 1 if an answer was not as due. */
    void end(String name) {
        System.out.println(name + ": " + checks + " answers looked at, " + wrong + " not as due");
        if (wrong != 0 || checks == 0) {
            System.exit(1);
        }
    }

    /** Puts a text on the tape, as feed() and end() do it. */
    static void type(TenTrials x, String text) {
        byte[] bytes = text.getBytes(StandardCharsets.ISO_8859_1);
        int before = x.count(6);
        for (int i = 0; i < bytes.length; i += 20) {
            x.feed(four(bytes, i), four(bytes, i + 4), four(bytes, i + 8), four(bytes, i + 12), four(bytes, i + 16));
        }
        x.end(before + bytes.length);
    }

    static int tell(TenTrials x, String text) {
        type(x, text);
        return x.text();
    }

    static TenTrials told(String text) {
        TenTrials x = new TenTrials();
        int lines = tell(x, text);
        if (lines < 0) {
            throw new IllegalStateException("refused (" + x.fault(0) + " at " + x.fault(1) + "): " + text);
        }
        return x;
    }

    static String out(TenTrials x) {
        StringBuilder told = new StringBuilder();
        for (int i = 0; x.octet(i) != TenTrials.NONE; i++) {
            told.append((char) x.octet(i));
        }
        return told.toString();
    }

    static int four(byte[] bytes, int at) {
        int n = 0;
        for (int i = at; i < at + 4; i++) {
            n = n << 8 | (i < bytes.length ? bytes[i] & 255 : 32);
        }
        return n;
    }
}
