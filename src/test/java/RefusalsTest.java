import java.io.IOException;
import java.util.List;

/** What throws changes nothing: every call that is refused in src/test/runs, where it is refused there. */
public final class RefusalsTest {
    public static void main(String[] args) throws IOException {
        int refused = 0;
        int wrong = 0;
        for (Run run : Run.read("")) {
            for (int i = 0; i < run.steps().size(); i++) {
                Run.Step step = run.steps().get(i);
                if (step.isRefused()) {
                    refused++;
                    wrong += tellDifferences(step, run.callsBefore(i));
                }
            }
        }
        System.out.println(refused + " refused calls tried, " + wrong + " changed something");
        if (refused == 0 || wrong != 0) {
            System.exit(1);
        }
    }

    private static int tellDifferences(Run.Step step, List<Call> before) {
        List<String> differences = Twins.differencesBy(step.call(), before);
        if (differences.isEmpty()) {
            return 0;
        }
        System.out.println(step.where() + ": " + step.call() + " is refused, but " + differences.get(0));
        return 1;
    }
}
