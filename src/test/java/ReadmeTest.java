import java.io.IOException;
import java.nio.file.Files;
import java.nio.file.Path;
import java.util.ArrayList;
import java.util.List;
import java.util.Set;
import java.util.TreeSet;
import java.util.regex.Matcher;
import java.util.regex.Pattern;
import java.util.stream.Stream;

/** What README.md says: its calls answer as told behind them, and its table names every test. */
public final class ReadmeTest {
    private static final Check CHECK = new Check("the readme");

    private static final Pattern MADE = Pattern.compile("HorsesOwnWays x = new HorsesOwnWays\\(\\);");
    private static final Pattern CALL = Pattern.compile("x\\.(\\w+)\\((.*?)\\); +// (-?\\d+)\\b.*");
    private static final Pattern ROW = Pattern.compile("\\| (\\w+Test) \\|.*");

    /** Every number that a call of the document is refused by, but for the places of FAULTS. */
    private static final long[] REFUSALS = {-2, -3, -4, -5, -7, -11, -12, -13, -14, -100, -1000000, HorsesOwnWays.NO};

    private static HorsesOwnWays x = new HorsesOwnWays();

    public static void main(String[] args) throws IOException {
        List<String> lines = Files.readAllLines(Path.of("README.md"));
        calls(lines);
        table(lines);
        CHECK.finish();
    }

    private static void calls(List<String> lines) {
        boolean isJava = false;
        Set<Long> told = new TreeSet<>();
        for (String line : lines) {
            if (line.startsWith("```")) {
                isJava = line.equals("```java");
            } else if (isJava && MADE.matcher(line).matches()) {
                x = new HorsesOwnWays();
            } else if (isJava) {
                told.add(answered(line));
            }
        }
        for (long refusal : REFUSALS) {
            CHECK.due("whether the refusal " + refusal + " is told", told.contains(refusal) ? 1 : 0, 1);
        }
    }

    /** What the line tells as the answer of its call. */
    private static long answered(String line) {
        Matcher call = CALL.matcher(line);
        boolean isCall = call.matches();
        CHECK.due("whether a call with its answer is: " + line, isCall ? 1 : 0, 1);
        if (!isCall) {
            return 0;
        }
        long due = Long.parseLong(call.group(3));
        CHECK.due(line, Calls.call(x, call.group(1), numbers(call.group(2))), due);
        return due;
    }

    /** NUMBERS, and signs between two '. */
    private static int[] numbers(String arguments) {
        List<Integer> found = new ArrayList<>();
        Matcher argument = Pattern.compile("'(.)'|(-?\\d+)").matcher(arguments);
        while (argument.find()) {
            found.add(argument.group(1) != null ? argument.group(1).charAt(0) : Integer.parseInt(argument.group(2)));
        }
        return found.stream().mapToInt(Integer::intValue).toArray();
    }

    private static void table(List<String> lines) throws IOException {
        Set<String> told = new TreeSet<>();
        for (String line : lines) {
            Matcher row = ROW.matcher(line);
            if (row.matches()) {
                told.add(row.group(1));
            }
        }
        Set<String> there = new TreeSet<>();
        try (Stream<Path> files = Files.list(Path.of("src/test/java"))) {
            files.map(f -> f.getFileName().toString()).filter(f -> f.endsWith("Test.java"))
                    .forEach(f -> there.add(f.substring(0, f.length() - ".java".length())));
        }
        CHECK.due("whether the table names " + there + " and no other one", told.equals(there) ? 1 : 0, 1);
    }
}
