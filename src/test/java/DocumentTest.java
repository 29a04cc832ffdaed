import java.io.IOException;
import java.lang.reflect.Method;
import java.nio.file.DirectoryStream;
import java.nio.file.Files;
import java.nio.file.Path;
import java.util.Arrays;
import java.util.LinkedHashMap;
import java.util.Map;
import java.util.regex.Matcher;
import java.util.regex.Pattern;

/**
 * That each sentence of the document's terms and promises is one of those that the tests are marked with,
 * and that the tests quote nothing that the document does not say.
 */
public final class DocumentTest {
    private static final Path DOCUMENT = Path.of("../shared/DOC.md");
    private static final Path TESTS = Path.of("src/test/java");

    private final Map<String, String> sections = new LinkedHashMap<>();
    private final Map<String, boolean[]> quoted = new LinkedHashMap<>();
    private int quotes;
    private int wrong;

    public static void main(String[] args) throws IOException, ClassNotFoundException {
        DocumentTest test = new DocumentTest();
        test.readTerms(Files.readString(DOCUMENT));
        test.readPromises(Files.readString(DOCUMENT));
        test.readTests();
        test.lookForUnquoted();
        System.out.println("DocumentTest: " + test.sections.size() + " sections, " + test.quotes + " quotes, " + test.wrong + " not as due");
        if (test.wrong != 0 || test.sections.size() != 54) {
            System.exit(1);
        }
    }

    private void readTerms(String document) {
        String terms = document.substring(document.indexOf("## Terms"), document.indexOf("## Promise 1:"));
        String plain = terms.replace("```text", "").replace("```", "");
        String[] numbers = {"I", "II", "III", "IV"};
        for (int i = 0; i < numbers.length; i++) {
            int from = plain.indexOf("\n" + numbers[i] + ". ") + numbers[i].length() + 3;
            int to = i + 1 < numbers.length ? plain.indexOf("\n" + numbers[i + 1] + ". ") : plain.length();
            add(numbers[i], plain.substring(from, to));
        }
    }

    private void readPromises(String document) {
        Matcher promise = Pattern.compile("## Promise (\\d+): [^\n]*\n\n`[^`]*`: ([^\n]*)").matcher(document);
        while (promise.find()) {
            add(promise.group(1), promise.group(2));
        }
    }

    private void add(String section, String text) {
        String plain = text.replaceAll("\\s+", " ").trim();
        sections.put(section, plain);
        quoted.put(section, new boolean[plain.length()]);
    }

    private void readTests() throws IOException, ClassNotFoundException {
        try (DirectoryStream<Path> files = Files.newDirectoryStream(TESTS, "*.java")) {
            for (Path file : files) {
                String name = file.getFileName().toString();
                for (Method method : Class.forName(name.substring(0, name.length() - 5)).getDeclaredMethods()) {
                    Sentence sentence = method.getAnnotation(Sentence.class);
                    if (sentence != null) {
                        quote(name + ", " + method.getName(), sentence);
                    }
                }
            }
        }
    }

    private void quote(String test, Sentence sentence) {
        for (String said : sentence.says()) {
            quotes++;
            int at = sections.getOrDefault(sentence.of(), "").indexOf(said);
            if (at < 0) {
                tell(test + ": the document does not say under " + sentence.of() + ": " + said);
                continue;
            }
            Arrays.fill(quoted.get(sentence.of()), at, at + said.length(), true);
        }
    }

    private void lookForUnquoted() {
        for (String section : sections.keySet()) {
            StringBuilder unsaid = new StringBuilder();
            String text = sections.get(section);
            for (int i = 0; i < text.length(); i++) {
                unsaid.append(quoted.get(section)[i] ? '\n' : text.charAt(i));
            }
            for (String rest : unsaid.toString().split("\n+")) {
                if (rest.chars().anyMatch(c -> Character.isLetterOrDigit(c))) {
                    tell("no test is marked with what the document says under " + section + ": " + rest);
                }
            }
        }
    }

    private void tell(String what) {
        wrong++;
        System.out.println(what);
    }
}
