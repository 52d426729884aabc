import java.io.IOException;
import java.lang.reflect.Method;
import java.lang.reflect.Modifier;
import java.nio.file.Files;
import java.nio.file.Path;
import java.util.ArrayList;
import java.util.List;
import java.util.TreeSet;
import java.util.regex.Matcher;
import java.util.regex.Pattern;
import java.util.stream.Stream;

/** What README.md says holds: its example and its commands are run in a copy of the project, its tables compared. */
public final class ReadmeTest {
    private static final String ALL_TESTS = ".ci/run";
    private static final Pattern PRINTED = Pattern.compile("System\\.out\\.println\\(.*\\); +// ([-a-z0-9]+).*");

    private final Due due = new Due();
    private final List<String> lines;
    private final List<String> printed = new ArrayList<>();

    private ReadmeTest() throws IOException {
        lines = Files.readAllLines(Path.of("README.md"));
    }

    public static void main(String[] args) throws IOException, InterruptedException {
        ReadmeTest test = new ReadmeTest();
        Path copy = Files.createTempDirectory("readme");
        test.commands(copy);
        delete(copy);
        test.example();
        test.sameNames("call", test.names("`(?:new )?([A-Za-z]+)\\("), faceNames());
        test.sameNames("class", test.names("^\\| `([A-Z][a-z]+)` "), classNames());
        test.sameNames("test", test.names("^\\| `([A-Za-z]+Test)` "), testNames());
        test.due.end();
    }

    private List<String> blocks(String language) {
        List<String> found = new ArrayList<>();
        boolean inside = false;
        for (String line : lines) {
            if (line.equals("```")) inside = false;
            if (inside) found.add(line);
            if (line.equals("```" + language)) inside = true;
        }
        return found;
    }

    private void commands(Path copy) throws IOException, InterruptedException {
        copyTree(Path.of("src"), copy);
        Files.write(copy.resolve("Example.java"), blocks("java"));
        boolean allTests = false;
        for (String command : blocks("sh")) {
            // This test is one of all tests, which it must not start again.
            if (command.equals(ALL_TESTS)) allTests = true;
            else due.is(command, run(command, copy), 0);
        }
        due.yes(ALL_TESTS + " is told and is there", allTests && Files.isExecutable(Path.of(ALL_TESTS)));
    }

    private int run(String command, Path where) throws IOException, InterruptedException {
        Path output = where.resolve("output");
        ProcessBuilder builder = new ProcessBuilder("sh", "-c", command).directory(where.toFile());
        int code = builder.redirectErrorStream(true).redirectOutput(output.toFile()).start().waitFor();
        List<String> told = Files.readAllLines(output);
        if (code != 0) for (String line : told) System.out.println(line);
        if (command.endsWith(" Example")) printed.addAll(told);
        return code;
    }

    private void example() {
        List<String> wanted = new ArrayList<>();
        for (String line : blocks("java")) {
            Matcher m = PRINTED.matcher(line.strip());
            if (m.matches()) wanted.add(m.group(1));
            else due.no("without an answer: " + line, line.contains("println"));
        }
        due.yes("there are answers", wanted.size() > 0);
        due.yes("printed " + printed + ", told " + wanted, printed.equals(wanted));
    }

    /** What the pattern finds in the tables. */
    private TreeSet<String> names(String pattern) {
        TreeSet<String> found = new TreeSet<>();
        for (String line : lines) {
            Matcher m = Pattern.compile(pattern).matcher(line);
            while (line.startsWith("|") && m.find()) found.add(m.group(1));
        }
        return found;
    }

    private void sameNames(String kind, TreeSet<String> told, TreeSet<String> there) {
        for (String name : there) due.yes(kind + " " + name + " is told", told.contains(name));
        for (String name : told) due.yes(kind + " " + name + " is there", there.contains(name));
    }

    private static TreeSet<String> faceNames() {
        TreeSet<String> names = new TreeSet<>();
        names.add("MulticastTrees");
        for (Method m : MulticastTrees.class.getDeclaredMethods()) {
            if (Modifier.isPublic(m.getModifiers())) names.add(m.getName());
        }
        return names;
    }

    private static TreeSet<String> classNames() {
        TreeSet<String> names = new TreeSet<>();
        for (Class<?> c : MulticastTrees.class.getDeclaredClasses()) names.add(c.getSimpleName());
        return names;
    }

    private static TreeSet<String> testNames() throws IOException {
        TreeSet<String> names = new TreeSet<>();
        for (Path path : tree(Path.of("src/test/java"))) {
            String name = path.getFileName().toString();
            if (name.endsWith("Test.java")) names.add(name.substring(0, name.length() - ".java".length()));
        }
        return names;
    }

    private static List<Path> tree(Path from) throws IOException {
        try (Stream<Path> paths = Files.walk(from)) {
            return paths.toList();
        }
    }

    private static void copyTree(Path from, Path into) throws IOException {
        for (Path path : tree(from)) Files.copy(path, into.resolve(path));
    }

    private static void delete(Path top) throws IOException {
        List<Path> paths = tree(top);
        for (int k = paths.size() - 1; k >= 0; k--) Files.delete(paths.get(k));
    }
}
