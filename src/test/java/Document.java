import java.io.IOException;
import java.io.UncheckedIOException;
import java.nio.charset.StandardCharsets;
import java.nio.file.Files;
import java.nio.file.Path;
import java.util.LinkedHashMap;
import java.util.List;
import java.util.Map;
import java.util.TreeMap;
import java.util.regex.MatchResult;
import java.util.regex.Pattern;
import java.util.stream.Stream;

/** What can be read off ../shared/DOC.md: the public face, and the promises by number and name. */
final class Document {
    private static final Pattern CONSTANTS = Pattern.compile("(?m)^ {4}public static final int (.*);$");
    private static final Pattern CALL = Pattern.compile("(?m)^ {4}public (\\w+ \\w+\\([\\w, ]*\\));$");
    private static final Pattern PROMISE = Pattern.compile("(?m)^## Promise (\\d+): (.+)\n\n`([^`]+)`: ");

    private final String text;

    Document() {
        try {
            text = Files.readString(Path.of("../shared/DOC.md"), StandardCharsets.UTF_8);
        } catch (IOException e) {
            throw new UncheckedIOException(e);
        }
    }

    /** The constants of the face with their values, in their order. */
    Map<String, Integer> constants() {
        Map<String, Integer> all = new LinkedHashMap<>();
        CONSTANTS.matcher(text).results().flatMap(row -> Stream.of(row.group(1).split(", "))).forEach(one -> {
            String[] sides = one.split(" = ");
            all.put(sides[0], Integer.parseInt(sides[1]));
        });
        return all;
    }

    /** The calls of the face as they are written there, such as "int letter(int code)". */
    List<String> calls() {
        return CALL.matcher(text).results().map(row -> row.group(1)).toList();
    }

    /** The name of each promise by its number: its call's, or newObject. */
    Map<Integer, String> promises() {
        Map<Integer, String> all = new TreeMap<>();
        promiseRows().forEach(row -> all.put(Integer.parseInt(row.group(1)),
                row.group(2).equals("A new object") ? "newObject" : row.group(2)));
        return all;
    }

    /** The calls as the promises write them, in their order; the first is the constructor. */
    List<String> promisedCalls() {
        return promiseRows().map(row -> row.group(3)).toList();
    }

    private Stream<MatchResult> promiseRows() {
        return PROMISE.matcher(text).results();
    }
}
