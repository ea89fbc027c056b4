import java.util.List;
import java.util.stream.Collectors;

/** What an object is after some calls, to be asked as much as one likes. */
final class State {
    /** What an object answers after so many calls is free. */
    static final int MOST_CALLS = 512;

    private final List<Call> way;
    private LogBroker broker;
    private int used;

    State(List<Call> way) {
        this.way = way;
        comeBack();
    }

    private void comeBack() {
        broker = new LogBroker();
        for (Call call : way) {
            call.answerOf(broker);
        }
        used = way.size();
    }

    /** The answer to a call that changes nothing. */
    String ask(Call call) {
        if (used == MOST_CALLS) {
            comeBack();
        }
        used++;
        return call.answerOf(broker);
    }

    int askNumber(Call call) {
        return Integer.parseInt(ask(call));
    }

    /** The answers to calls that may change what they find, made one after another from here on. */
    List<String> answersTo(List<Call> calls) {
        if (way.size() + calls.size() > MOST_CALLS) {
            throw new AssertionError("too many calls for one object");
        }
        comeBack();
        List<String> answers = calls.stream().map(call -> call.answerOf(broker)).collect(Collectors.toList());
        // The object is no longer in this state, so the next question needs another.
        used = MOST_CALLS;
        return answers;
    }
}
