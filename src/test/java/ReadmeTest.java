import java.io.IOException;
import java.lang.reflect.Method;
import java.lang.reflect.Modifier;
import java.nio.charset.StandardCharsets;
import java.nio.file.Files;
import java.nio.file.Path;
import java.util.ArrayList;
import java.util.Arrays;
import java.util.Comparator;
import java.util.List;
import java.util.Map;
import java.util.Set;
import java.util.TreeSet;
import java.util.regex.Matcher;
import java.util.regex.Pattern;
import java.util.stream.Collectors;
import java.util.stream.Stream;

/** What README.md and BOUNDS.md tell holds as it is written there; run from the project's own directory. */
public final class ReadmeTest {
    private static final Path README = Path.of("README.md");
    private static final Path BOUNDS = Path.of("src", "test", "BOUNDS.md");
    private static final Path MAIN = Path.of("src", "main", "java");
    private static final Path TESTS = Path.of("src", "test", "java");
    private static final Pattern QUOTED = Pattern.compile("`([^`]+)`");
    /** The short names that BOUNDS.md says it uses. */
    private static final Map<String, String> SHORT = Map.of("Users", "BoundsOfUsersTest",
        "Envelopes", "BoundsOfEnvelopesTest", "Sessions", "BoundsOfSessionsTest", "Failed", "FailedOpeningTest",
        "Refused", "RefusedTest", "Rare", "RareKeysTest");

    private static final Due DUE = new Due("ReadmeTest");

    public static void main(String[] args) throws Exception {
        String readme = Files.readString(README);
        theExample(readme);
        oneTestAlone(readme);
        theWholeRun(readme);
        everyCall(readme);
        everyConstant(readme);
        everyTest(readme);
        everyBound();
        DUE.end();
    }

    /** The example is compiled and run by the commands that stand there, and prints what stands there. */
    private static void theExample(String readme) throws Exception {
        Path place = Files.createTempDirectory("readme");
        copyAll(MAIN, place);
        Files.writeString(place.resolve("Example.java"), block(readme, "java", 0));
        String printed = run(place, block(readme, "sh", 0));
        DUE.is("the example printed\n" + printed, printed.equals(block(readme, "text", 0)), true);
        remove(place);
    }

    private static void oneTestAlone(String readme) throws Exception {
        Path place = Files.createTempDirectory("readme");
        copyAll(MAIN, place);
        copyAll(TESTS, place);
        String printed = run(place, block(readme, "sh", 2));
        DUE.is("one test alone printed\n" + printed, printed.endsWith(" 0 of them wrong\n"), true);
        remove(place);
    }

    /** It is not run from here, since it runs this test. */
    private static void theWholeRun(String readme) {
        Path script = Path.of(block(readme, "sh", 1).strip());
        DUE.is(script + " can be run", Files.isExecutable(script), true);
    }

    private static void everyCall(String readme) {
        Set<String> told = new TreeSet<>();
        for (String cell : firstCells(readme, "| call |")) {
            if (!cell.startsWith("new ")) {
                told.add(cell.substring(0, cell.indexOf('(')) + " " + parameters(cell));
            }
        }
        Set<String> there = Arrays.stream(RatchetPost.class.getDeclaredMethods())
            .filter(method -> Modifier.isPublic(method.getModifiers()))
            .map(method -> method.getName() + " " + method.getParameterCount())
            .collect(Collectors.toCollection(TreeSet::new));
        DUE.is("the calls told " + told + " are those that are there " + there, told.equals(there), true);
    }

    private static int parameters(String call) {
        String inside = call.substring(call.indexOf('(') + 1, call.indexOf(')'));
        return inside.isEmpty() ? 0 : inside.split(",").length;
    }

    private static void everyConstant(String readme) throws Exception {
        int due = 0;
        for (String row : rows(readme, "| `open` answers |")) {
            String[] cells = row.split("\\|");
            String name = cells[2].strip().replace("`", "");
            DUE.is("the number of " + name, Integer.parseInt(cells[1].strip()), due);
            DUE.is("the constant " + name, RatchetPost.class.getField(name).getInt(null), due);
            due++;
        }
        DUE.is("the answers of open", due, 7);
    }

    private static void everyTest(String readme) throws IOException {
        Set<String> told = new TreeSet<>(firstCells(readme, "| test |"));
        Set<String> there = new TreeSet<>();
        try (Stream<Path> files = Files.list(TESTS)) {
            files.map(file -> file.getFileName().toString()).filter(name -> name.endsWith("Test.java"))
                .forEach(name -> there.add(name.substring(0, name.length() - ".java".length())));
        }
        DUE.is("the tests told " + told + " are those that are there " + there, told.equals(there), true);
    }

    /** Every test that the last cell of a row names is a method of the test class that it names, or the class. */
    private static void everyBound() throws Exception {
        int found = 0;
        String inClass = "";
        for (String line : Files.readAllLines(BOUNDS)) {
            String[] cells = line.split(" \\| ");
            Matcher quoted = QUOTED.matcher(cells[cells.length - 1]);
            while (line.startsWith("| ") && quoted.find()) {
                String name = quoted.group(1);
                int dot = name.indexOf('.');
                boolean whole = dot < 0 && SHORT.containsKey(name);
                inClass = whole ? name : dot < 0 ? inClass : name.substring(0, dot);
                DUE.is("BOUNDS.md: " + name + " of " + inClass, whole || has(inClass, name.substring(dot + 1)), true);
                found++;
            }
        }
        DUE.is("tests are told in BOUNDS.md", found > 100, true);
    }

    private static boolean has(String shortName, String method) throws Exception {
        String full = SHORT.get(shortName);
        return full != null && Arrays.stream(Class.forName(full).getDeclaredMethods())
            .map(Method::getName).anyMatch(method::equals);
    }

    /** The given fenced block of a kind, counted from 0. */
    private static String block(String text, String kind, int which) {
        Matcher found = Pattern.compile("^```" + kind + "\n(.*?)^```$", Pattern.DOTALL | Pattern.MULTILINE)
            .matcher(text);
        for (int i = 0; found.find(); i++) {
            if (i == which) {
                return found.group(1);
            }
        }
        DUE.is("block " + which + " of " + kind + " is there", false, true);
        return "";
    }

    /** The rows of the table whose head begins so, without its head. */
    private static List<String> rows(String text, String head) {
        List<String> rows = new ArrayList<>();
        int place = -1;
        for (String line : text.split("\n")) {
            place = line.startsWith(head) ? 0 : place < 0 || !line.startsWith("|") ? -1 : place + 1;
            if (place > 1) {
                rows.add(line);
            }
        }
        return rows;
    }

    private static List<String> firstCells(String text, String head) {
        List<String> cells = new ArrayList<>();
        for (String row : rows(text, head)) {
            Matcher quoted = QUOTED.matcher(row);
            if (quoted.find()) {
                cells.add(quoted.group(1));
            }
        }
        return cells;
    }

    private static String run(Path place, String commands) throws Exception {
        Process process = new ProcessBuilder("sh", "-e", "-c", commands).directory(place.toFile())
            .redirectError(ProcessBuilder.Redirect.INHERIT).start();
        String printed = new String(process.getInputStream().readAllBytes(), StandardCharsets.UTF_8);
        DUE.is("the exit code of\n" + commands + printed, process.waitFor(), 0);
        return printed;
    }

    private static void copyAll(Path directory, Path place) throws IOException {
        Files.createDirectories(place.resolve(directory));
        try (Stream<Path> files = Files.list(directory)) {
            for (Path file : files.collect(Collectors.toList())) {
                Files.copy(file, place.resolve(file));
            }
        }
    }

    private static void remove(Path place) throws IOException {
        try (Stream<Path> all = Files.walk(place)) {
            for (Path path : all.sorted(Comparator.reverseOrder()).collect(Collectors.toList())) {
                Files.delete(path);
            }
        }
    }
}
