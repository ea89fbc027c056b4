import java.io.IOException;
import java.nio.file.Files;
import java.nio.file.Path;
import java.util.ArrayList;
import java.util.List;
import java.util.Map;
import java.util.regex.Matcher;
import java.util.regex.Pattern;
import java.util.stream.Collectors;
import java.util.stream.Stream;

/** A run of src/test/runs: calls on a new object, each with the answer due; README.md tells the form. */
record Run(String name, List<Step> steps) {
    private static final Path PLACE = Path.of("src/test/runs");
    private static final Pattern STEP = Pattern.compile("(.+\\)) = (.+)");
    private static final Pattern LOOP = Pattern.compile("for i (\\d+)\\.\\.(\\d+): (.+)");
    private static final Pattern COUNTER = Pattern.compile("\\bi\\b(?:\\+(\\d+))?");
    private static final Map<String, String> WORDS_OF_THE_DOCUMENT = Map.of(
        "Bad", "IllegalArgumentException",
        "Missing", "NoSuchElementException",
        "Not now", "IllegalStateException",
        "Fenced", "UnsupportedOperationException",
        "No room", "UnsupportedOperationException",
        "Out of the log", "IndexOutOfBoundsException");

    record Step(String where, Call call, String due) {
        boolean isRefused() {
            return WORDS_OF_THE_DOCUMENT.containsValue(due);
        }
    }

    List<Call> callsBefore(int step) {
        return steps.subList(0, step).stream().map(Step::call).collect(Collectors.toList());
    }

    /** The runs of all files whose names begin with the prefix. */
    static List<Run> read(String prefix) throws IOException {
        List<Path> files;
        try (Stream<Path> all = Files.list(PLACE)) {
            files = all.filter(f -> f.getFileName().toString().startsWith(prefix)).sorted()
                .collect(Collectors.toList());
        }
        List<Run> runs = new ArrayList<>();
        for (Path file : files) {
            readFile(file, runs);
        }
        return runs;
    }

    private static void readFile(Path file, List<Run> runs) throws IOException {
        int number = 0;
        for (String line : Files.readAllLines(file)) {
            number++;
            String where = file.getFileName() + ":" + number;
            if (line.startsWith("run ")) {
                runs.add(new Run(line.substring("run ".length()), new ArrayList<>()));
            } else if (!line.isBlank() && !line.startsWith("#")) {
                readSteps(where, line, runs.get(runs.size() - 1).steps);
            }
        }
    }

    private static void readSteps(String where, String line, List<Step> steps) {
        Matcher loop = LOOP.matcher(line);
        if (!loop.matches()) {
            steps.add(readStep(where, line));
            return;
        }
        for (int i = Integer.parseInt(loop.group(1)); i <= Integer.parseInt(loop.group(2)); i++) {
            steps.add(readStep(where, withCounter(loop.group(3), i)));
        }
    }

    private static String withCounter(String text, int i) {
        return COUNTER.matcher(text).replaceAll(found -> {
            int more = found.group(1) == null ? 0 : Integer.parseInt(found.group(1));
            return Integer.toString(i + more);
        });
    }

    private static Step readStep(String where, String text) {
        Matcher step = STEP.matcher(text);
        if (!step.matches()) {
            throw new IllegalArgumentException(where + ": not a call with its answer: " + text);
        }
        String due = step.group(2);
        return new Step(where, Call.read(step.group(1)), WORDS_OF_THE_DOCUMENT.getOrDefault(due, due));
    }
}
