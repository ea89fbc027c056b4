import java.io.IOException;
import java.lang.reflect.InvocationTargetException;
import java.lang.reflect.Method;
import java.nio.file.Files;
import java.nio.file.Path;
import java.util.List;
import java.util.Map;
import java.util.regex.Matcher;
import java.util.regex.Pattern;
import java.util.stream.Collectors;
import java.util.stream.Stream;

/** Plays the runs of src/test/runs, each on a new object; README.md tells their form. */
public final class PromiseRunsTest {
    private static final int PROMISES = 16;
    private static final Pattern CALL = Pattern.compile("(\\w+)\\(([^)]*)\\) = (.+)");
    private static final Pattern LOOP = Pattern.compile("for i (\\d+)\\.\\.(\\d+): (.+)");
    private static final Map<String, String> WORDS_OF_THE_DOCUMENT = Map.of(
        "Bad", "IllegalArgumentException",
        "Missing", "NoSuchElementException",
        "Not now", "IllegalStateException",
        "Fenced", "UnsupportedOperationException",
        "No room", "UnsupportedOperationException",
        "Out of the log", "IndexOutOfBoundsException");

    private LogBroker broker;
    private String where = "";
    private int calls;
    private int wrong;

    public static void main(String[] args) throws IOException {
        PromiseRunsTest test = new PromiseRunsTest();
        for (int promise = 1; promise <= PROMISES; promise++) {
            test.playFilesOf(promise);
        }
        System.out.println(test.calls + " calls played, " + test.wrong + " wrong");
        if (test.wrong != 0) {
            System.exit(1);
        }
    }

    private void playFilesOf(int promise) throws IOException {
        String prefix = String.format("%02d-", promise);
        List<Path> files;
        try (Stream<Path> all = Files.list(Path.of("src/test/runs"))) {
            files = all.filter(f -> f.getFileName().toString().startsWith(prefix)).sorted()
                .collect(Collectors.toList());
        }
        int before = calls;
        for (Path file : files) {
            playFile(file);
        }
        if (calls == before) {
            complain("promise " + promise + " has no run");
        }
    }

    private void playFile(Path file) throws IOException {
        broker = null;
        int number = 0;
        for (String line : Files.readAllLines(file)) {
            number++;
            where = file.getFileName() + ":" + number;
            playLine(line.strip());
        }
    }

    private void playLine(String line) {
        Matcher loop = LOOP.matcher(line);
        if (line.isEmpty() || line.startsWith("#")) {
            return;
        }
        if (line.startsWith("run ")) {
            broker = new LogBroker();
        } else if (loop.matches()) {
            for (int i = Integer.parseInt(loop.group(1)); i <= Integer.parseInt(loop.group(2)); i++) {
                playCall(loop.group(3).replaceAll("\\bi\\b", Integer.toString(i)));
            }
        } else {
            playCall(line);
        }
    }

    private void playCall(String text) {
        Matcher call = CALL.matcher(text);
        if (!call.matches()) {
            complain("not a call: " + text);
            return;
        }
        calls++;
        String due = WORDS_OF_THE_DOCUMENT.getOrDefault(call.group(3), call.group(3));
        String got = answer(call.group(1), call.group(2).isBlank() ? new String[0] : call.group(2).split(", *"));
        if (!got.equals(due)) {
            complain(text + ", but the answer was " + got);
        }
    }

    private String answer(String name, String[] texts) {
        for (Method method : LogBroker.class.getMethods()) {
            if (method.getName().equals(name) && method.getParameterCount() == texts.length) {
                return answer(method, texts);
            }
        }
        return "no such method";
    }

    private String answer(Method method, String[] texts) {
        Object[] values = new Object[texts.length];
        for (int i = 0; i < values.length; i++) {
            boolean flag = method.getParameterTypes()[i] == boolean.class;
            values[i] = flag ? (Object) Boolean.valueOf(texts[i]) : (Object) Integer.valueOf(texts[i]);
        }
        try {
            Object answer = method.invoke(broker, values);
            return method.getReturnType() == void.class ? "done" : answer.toString();
        } catch (InvocationTargetException e) {
            return e.getCause().getClass().getSimpleName();
        } catch (IllegalAccessException e) {
            return "not public";
        }
    }

    private void complain(String what) {
        wrong++;
        System.out.println(where + ": " + what);
    }
}
