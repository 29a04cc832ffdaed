import java.io.IOException;
import java.lang.reflect.Method;
import java.lang.reflect.Modifier;
import java.nio.charset.StandardCharsets;
import java.nio.file.DirectoryStream;
import java.nio.file.Files;
import java.nio.file.Path;
import java.util.ArrayList;
import java.util.Comparator;
import java.util.List;
import java.util.Map;
import java.util.Set;
import java.util.TreeMap;
import java.util.TreeSet;
import java.util.regex.Matcher;
import java.util.regex.Pattern;
import java.util.stream.Stream;

/** That README.md is so when it is followed: its commands, in a copy of the project, its example, its calls, its tests. */
public final class ReadmeTest {
    private static final Path README = Path.of("README.md");
    private static final Path SHARED = Path.of("../shared");
    private static final Path TESTS = Path.of("src/test/java");
    private static final String ALL_TESTS = ".ci/run";

    private final String page;
    private int looks;
    private int wrong;

    private ReadmeTest(String page) {
        this.page = page;
    }

    public static void main(String[] args) throws IOException, InterruptedException {
        ReadmeTest test = new ReadmeTest(Files.readString(README));
        test.lookAtCalls();
        test.lookAtTests();
        Path copy = Files.createTempDirectory("readme");
        try {
            test.follow(copy);
        } finally {
            remove(copy);
        }
        System.out.println("ReadmeTest: " + test.looks + " looks, " + test.wrong + " not as due");
        if (test.wrong != 0) {
            System.exit(1);
        }
    }

    private void due(String what, Object want, Object got) {
        looks++;
        if (!want.equals(got)) {
            wrong++;
            System.out.println(what + " is " + got + ", due is " + want);
        }
    }

    /** What stands between ```kind and ```, block by block. */
    private List<String> blocks(String kind) {
        List<String> blocks = new ArrayList<>();
        Matcher block = Pattern.compile("(?ms)^```" + kind + "\n(.*?)^```$").matcher(page);
        while (block.find()) {
            blocks.add(block.group(1));
        }
        return blocks;
    }

    /** The table has every call of the face with as many arguments as it takes, and no other. */
    private void lookAtCalls() {
        Map<String, Integer> there = new TreeMap<>();
        for (Method method : TenTrials.class.getDeclaredMethods()) {
            if (Modifier.isPublic(method.getModifiers())) {
                there.put(method.getName(), method.getParameterCount());
            }
        }
        Map<String, Integer> told = new TreeMap<>();
        for (String line : page.split("\n")) {
            Matcher call = Pattern.compile("`(\\w+)\\(([^)]*)\\)`").matcher(line.startsWith("| ") ? line : "");
            while (call.find()) {
                Integer before = told.put(call.group(1), call.group(2).isEmpty() ? 0 : call.group(2).split(", ").length);
                due("how often the table had " + call.group(1), "never", before == null ? "never" : "once");
            }
        }
        due("the calls of the table", there, told);
    }

    private void lookAtTests() throws IOException {
        Set<String> there = new TreeSet<>();
        try (DirectoryStream<Path> files = Files.newDirectoryStream(TESTS, "*Test.java")) {
            files.forEach(file -> there.add(file.getFileName().toString().replace(".java", "")));
        }
        Set<String> told = new TreeSet<>();
        Matcher name = Pattern.compile("`(\\w+Test)`").matcher(page);
        while (name.find()) {
            told.add(name.group(1));
        }
        due("the tests that are told", there, told);
        for (String path : new String[] {"src/main/java/TenTrials.java", "../shared/DOC.md", "../shared/LANGUAGE.md", "../shared/tests"}) {
            due("that " + path + " is told", true, page.contains("`" + path + "`"));
            due("that " + path + " is there", true, Files.exists(Path.of(path)));
        }
    }

    private void follow(Path copy) throws IOException, InterruptedException {
        Path project = copy.resolve("main");
        copyAll(Path.of("src"), project.resolve("src"));
        copyAll(SHARED, copy.resolve("shared"));
        due("blocks of Java", 1, blocks("java").size());
        due("blocks of what is printed", 1, blocks("text").size());
        Files.writeString(project.resolve("Example.java"), String.join("", blocks("java")));
        boolean runsAll = false;
        for (String block : blocks("sh")) {
            String printed = "";
            for (String command : block.split("\n")) {
                // This test is one of those that the command runs: it would never come to an end.
                runsAll |= command.equals(ALL_TESTS);
                printed += command.equals(ALL_TESTS) ? "" : run(command, project);
            }
            if (block.contains("Example.java")) {
                due("what the example prints", String.join("", blocks("text")), printed);
            }
        }
        due("that the page tells how to run all tests", true, runsAll);
        due("that it can be run", true, Files.isExecutable(Path.of(ALL_TESTS)));
    }

    private String run(String command, Path where) throws IOException, InterruptedException {
        Process process = new ProcessBuilder("sh", "-c", command).directory(where.toFile()).redirectErrorStream(true).start();
        process.getOutputStream().close();
        String printed = new String(process.getInputStream().readAllBytes(), StandardCharsets.UTF_8);
        int code = process.waitFor();
        due("the exit code of " + command, 0, code);
        if (code != 0) {
            System.out.println(printed);
        }
        return printed;
    }

    private static void copyAll(Path from, Path to) throws IOException {
        List<Path> all;
        try (Stream<Path> found = Files.walk(from)) {
            all = found.toList();
        }
        for (Path path : all) {
            Path target = to.resolve(from.relativize(path).toString());
            if (Files.isDirectory(path)) {
                Files.createDirectories(target);
            } else {
                Files.write(target, Files.readAllBytes(path));
            }
        }
    }

    private static void remove(Path root) throws IOException {
        List<Path> all;
        try (Stream<Path> found = Files.walk(root)) {
            all = found.sorted(Comparator.reverseOrder()).toList();
        }
        for (Path path : all) {
            Files.delete(path);
        }
    }
}
