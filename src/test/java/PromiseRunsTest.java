import java.io.IOException;
import java.util.List;

/** Plays the runs of src/test/runs, each on a new object. */
public final class PromiseRunsTest {
    private static final int PROMISES = 16;

    private int calls;
    private int wrong;

    public static void main(String[] args) throws IOException {
        PromiseRunsTest test = new PromiseRunsTest();
        // 00 is for the document's terms, the others are the promises.
        for (int promise = 0; promise <= PROMISES; promise++) {
            test.playRunsOf(String.format("%02d-", promise));
        }
        System.out.println(test.calls + " calls played, " + test.wrong + " wrong");
        if (test.wrong != 0) {
            System.exit(1);
        }
    }

    private void playRunsOf(String prefix) throws IOException {
        List<Run> runs = Run.read(prefix);
        if (runs.isEmpty()) {
            complain("no run begins with " + prefix);
        }
        for (Run run : runs) {
            play(run);
        }
    }

    private void play(Run run) {
        if (run.steps().isEmpty() || run.steps().size() > State.MOST_CALLS) {
            complain("no call, or more than an object is promised to take: " + run.name());
        }
        LogBroker broker = new LogBroker();
        for (Run.Step step : run.steps()) {
            calls++;
            String got = step.call().answerOf(broker);
            if (!got.equals(step.due())) {
                complain(step.where() + ", " + run.name() + ": " + step.call() + " answered " + got
                    + ", due is " + step.due());
            }
        }
    }

    private void complain(String what) {
        wrong++;
        System.out.println(what);
    }
}
