import java.io.IOException;
import java.lang.reflect.InvocationTargetException;
import java.lang.reflect.Method;
import java.lang.reflect.Modifier;
import java.net.URL;
import java.net.URLClassLoader;
import java.nio.charset.StandardCharsets;
import java.nio.file.Files;
import java.nio.file.Path;
import java.util.ArrayList;
import java.util.Comparator;
import java.util.List;
import java.util.Set;
import java.util.TreeSet;
import java.util.regex.MatchResult;
import java.util.regex.Matcher;
import java.util.regex.Pattern;
import java.util.stream.Collectors;
import java.util.stream.Stream;
import javax.tools.ToolProvider;

/** README.md tells the truth: what it shows is compiled and run, and what it names is there. */
public final class ReadmeTest {
    private static final Pattern BLOCK = Pattern.compile("(?ms)^```java\n(.*?)^```$");
    private static final Pattern CALL = Pattern.compile("(yards\\.\\w+\\([^;]*\\));\\s*// (-?\\d+): .*");
    private static final Pattern REFUSAL = Pattern.compile("`ShameYards\\.([A-Z]+)`(?: \\| | \\()(-\\d+)");
    private static final Pattern CLASS_ROW = Pattern.compile("(?m)^\\| (`[A-Z][^|]*) \\| [^|]* \\|$");
    private static final Pattern TEST = Pattern.compile("(?m)^- `(\\w+Test)`:");

    private static final Due due = new Due();

    public static void main(String[] args) throws IOException, ReflectiveOperationException {
        due.promise("README.md");
        String page = Files.readString(Path.of("README.md"), StandardCharsets.UTF_8);
        everyCallIsShown(page);
        callsAnswerAsItSays(page);
        refusalsAreTheConstants(page);
        classesAreThere(page);
        testsAreThere(page);
        commandIsThere(page);
        due.end("ReadmeTest");
    }

    private static void everyCallIsShown(String page) {
        for (Method method : ShameYards.class.getDeclaredMethods()) {
            if (Modifier.isPublic(method.getModifiers())) {
                due.holds(method.getName() + "() is shown", page.contains("yards." + method.getName() + "("));
            }
        }
    }

    private static void callsAnswerAsItSays(String page) throws IOException, ReflectiveOperationException {
        List<String> calls = new ArrayList<>();
        List<Long> answers = new ArrayList<>();
        List<?> told = compiledAndRun(shownCode(page, calls, answers));
        due.holds("every call of the face and more are shown: " + calls, calls.size() >= 24);
        due.is("calls that were answered", told.size(), calls.size());
        for (int i = 0; i < told.size(); i++) {
            due.is(calls.get(i), (Long) told.get(i), answers.get(i));
        }
    }

    /** What the page shows, with every call that stands alone on its line told of. */
    private static String shownCode(String page, List<String> calls, List<Long> answers) {
        StringBuilder code = new StringBuilder();
        for (Matcher block = BLOCK.matcher(page); block.find();) {
            for (String line : block.group(1).split("\n")) {
                Matcher call = CALL.matcher(line);
                boolean answered = call.matches();
                due.holds("an answer stands behind " + line, answered || !line.startsWith("yards."));
                if (answered) {
                    calls.add(call.group(1));
                    answers.add(Long.parseLong(call.group(2)));
                }
                code.append(answered ? "told.add((long) " + call.group(1) + ");" : line).append('\n');
            }
        }
        return code.toString();
    }

    private static List<?> compiledAndRun(String code) throws IOException, ReflectiveOperationException {
        Path folder = Files.createTempDirectory("readme");
        try {
            Path file = Files.writeString(folder.resolve("Shown.java"), "public class Shown {\n"
                    + "public static java.util.List<Long> told() {\n"
                    + "java.util.List<Long> told = new java.util.ArrayList<>();\n" + code + "return told;\n}\n}\n");
            int failed = ToolProvider.getSystemJavaCompiler().run(null, null, null, "--release", "17",
                    "-cp", System.getProperty("java.class.path"), "-d", folder.toString(), file.toString());
            due.is("what it shows compiles", failed, 0);
            return failed == 0 ? run(folder) : List.of();
        } finally {
            delete(folder);
        }
    }

    private static List<?> run(Path folder) throws IOException, ReflectiveOperationException {
        try (URLClassLoader loader = new URLClassLoader(new URL[] {folder.toUri().toURL()})) {
            return (List<?>) loader.loadClass("Shown").getMethod("told").invoke(null);
        } catch (InvocationTargetException e) {
            due.holds("what it shows ends without " + e.getCause(), false);
            return List.of();
        }
    }

    private static void delete(Path folder) throws IOException {
        List<Path> all;
        try (Stream<Path> walk = Files.walk(folder)) {
            all = walk.sorted(Comparator.reverseOrder()).toList();
        }
        for (Path one : all) {
            Files.delete(one);
        }
    }

    private static void refusalsAreTheConstants(String page) throws ReflectiveOperationException {
        List<MatchResult> rows = REFUSAL.matcher(page).results().toList();
        for (MatchResult row : rows) {
            due.is(row.group(1), Long.parseLong(row.group(2)), ShameYards.class.getField(row.group(1)).getInt(null));
        }
        due.is("constants that it names", rows.size(), ShameYards.class.getFields().length);
    }

    private static void classesAreThere(String page) {
        Set<String> named = CLASS_ROW.matcher(page).results()
                .flatMap(row -> Stream.of(row.group(1).replace("`", "").split(", ")))
                .filter(name -> !name.startsWith("ShameYards."))
                .collect(Collectors.toCollection(TreeSet::new));
        Set<String> there = Stream.of(ShameYards.class.getDeclaredClasses()).map(Class::getSimpleName)
                .collect(Collectors.toCollection(TreeSet::new));
        due.holds("it names the classes inside, " + there + ": " + named, named.equals(there));
    }

    private static void testsAreThere(String page) throws IOException {
        Set<String> named = TEST.matcher(page).results().map(row -> row.group(1))
                .collect(Collectors.toCollection(TreeSet::new));
        try (Stream<Path> files = Files.list(Path.of("src/test/java"))) {
            Set<String> there = files.map(file -> file.getFileName().toString())
                    .filter(name -> name.endsWith("Test.java")).map(name -> name.replace(".java", ""))
                    .collect(Collectors.toCollection(TreeSet::new));
            due.holds("it names the tests, " + there + ": " + named, named.equals(there));
        }
    }

    private static void commandIsThere(String page) {
        Matcher command = Pattern.compile("(?m)^## How to run its tests\n\n {4}(\\S+)$").matcher(page);
        boolean given = command.find();
        due.holds("a command that runs the tests is given", given);
        due.holds("it can be run", given && Files.isExecutable(Path.of(command.group(1))));
    }
}
