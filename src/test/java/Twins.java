import java.util.ArrayList;
import java.util.List;

/** Two states that should be the same: whatever is asked of both and tried on both, they answer alike. */
final class Twins {
    private static final int TOPICS = 3;
    private static final int TPS = 12;
    private static final int PRODUCERS = 4;
    private static final int SESSIONS = 6;
    private static final int GROUPS = 2;
    private static final int MEMBERS = 4;
    private static final int NEVER_TRIED = -1;

    private final State one;
    private final State other;
    private final List<Integer> tps = new ArrayList<>();
    private final int[][] highestNumbers = new int[SESSIONS][TPS];
    private final List<String> differences = new ArrayList<>();

    private Twins(List<Call> way, List<Call> otherWay) {
        one = new State(way);
        other = new State(otherWay);
        for (int tp = 0; tp < TPS; tp++) {
            if (isThere(tp)) {
                tps.add(tp);
            }
            for (int s = 0; s < SESSIONS; s++) {
                highestNumbers[s][tp] = highestNumber(way, s, tp);
            }
        }
    }

    private boolean isThere(int tp) {
        return !one.ask(Call.of("log", tp, 0)).equals("IllegalArgumentException");
    }

    private static int highestNumber(List<Call> way, int s, int tp) {
        return way.stream().filter(call -> call.name.equals("produce") && call.numbers[0] == s && call.numbers[1] == tp)
            .mapToInt(call -> call.numbers[2]).filter(number -> number < State.MOST_CALLS)
            .max().orElse(NEVER_TRIED);
    }

    /** How the state after the way and the refused call differs from the one after the way alone. */
    static List<String> differencesBy(Call refused, List<Call> way) {
        List<Call> otherWay = new ArrayList<>(way);
        otherWay.add(refused);
        Twins twins = new Twins(way, otherWay);
        twins.compare();
        return twins.differences;
    }

    private void compare() {
        askRecords();
        tryAlike(numbersTold());
        tryAlike(topicsMade());
        tryAlike(transactionsBegunAndEnded());
        tryAlike(logsCompacted());
        tryAlike(partitionsPolled());
        tryAlike(membersLeavingAndJoining());
        for (int p = 0; p < PRODUCERS; p++) {
            tryAlike(sessionsOpenedFor(p));
        }
        for (int s = 0; s < SESSIONS; s++) {
            tryAlike(recordsProducedBy(s));
        }
    }

    private void tryAlike(List<Call> calls) {
        List<String> answers = one.answersTo(calls);
        List<String> otherAnswers = other.answersTo(calls);
        for (int i = 0; i < calls.size(); i++) {
            note(calls.get(i), answers.get(i), otherAnswers.get(i));
        }
    }

    private void note(Call call, String answer, String otherAnswer) {
        if (!answer.equals(otherAnswer)) {
            differences.add(call + " answers " + answer + " without and " + otherAnswer + " with it");
        }
    }

    private void askRecords() {
        for (int tp : tps) {
            int start = one.askNumber(Call.of("log", tp, 0));
            int end = one.askNumber(Call.of("log", tp, 1));
            for (int offset = start; offset <= end; offset++) {
                for (int what = 0; what < 5; what++) {
                    Call told = Call.of("told", tp, offset, what);
                    note(told, one.ask(told), other.ask(told));
                }
            }
        }
    }

    private List<Call> numbersTold() {
        List<Call> calls = new ArrayList<>();
        for (int what = 0; what < 8; what++) {
            calls.add(Call.of("count", what));
        }
        for (int tp : tps) {
            for (int what = 0; what < 9; what++) {
                calls.add(Call.of("log", tp, what));
            }
            for (int g = 0; g < GROUPS; g++) {
                calls.add(Call.of("owner", g, tp));
            }
        }
        return calls;
    }

    private List<Call> topicsMade() {
        List<Call> calls = new ArrayList<>();
        for (int t = 0; t < TOPICS; t++) {
            calls.add(Call.flagged("topic", true, t, 3, 1, 1));
        }
        for (int tp = 0; tp < TPS; tp++) {
            calls.add(Call.of("log", tp, 0));
        }
        return calls;
    }

    private List<Call> transactionsBegunAndEnded() {
        List<Call> calls = new ArrayList<>();
        for (int s = 0; s < SESSIONS; s++) {
            calls.add(Call.of("begin", s));
        }
        calls.add(Call.of("count", 5));
        for (int s = 0; s < SESSIONS; s++) {
            calls.add(Call.flagged("end", true, s));
        }
        for (int tp : tps) {
            calls.add(Call.of("log", tp, 1));
            calls.add(Call.of("log", tp, 2));
        }
        return calls;
    }

    private List<Call> logsCompacted() {
        List<Call> calls = new ArrayList<>();
        for (int tp : tps) {
            calls.add(Call.of("compact", tp));
            calls.add(Call.of("log", tp, 3));
        }
        return calls;
    }

    private List<Call> partitionsPolled() {
        List<Call> calls = new ArrayList<>();
        for (int g = 0; g < GROUPS; g++) {
            int generation = one.askNumber(Call.of("count", 6 + g));
            for (int m = 0; m < MEMBERS; m++) {
                for (int tp : tps) {
                    calls.add(Call.of("poll", g, m, generation, tp));
                }
            }
        }
        return calls;
    }

    private List<Call> membersLeavingAndJoining() {
        List<Call> calls = new ArrayList<>();
        for (int g = 0; g < GROUPS; g++) {
            for (int m = 0; m < MEMBERS; m++) {
                calls.add(Call.of("leave", g, m));
            }
            for (int t = 0; t < TOPICS; t++) {
                calls.add(Call.of("join", g, t, t));
            }
            for (int tp : tps) {
                calls.add(Call.of("log", tp, 5 + g));
                calls.add(Call.of("owner", g, tp));
            }
        }
        return calls;
    }

    private List<Call> sessionsOpenedFor(int p) {
        List<Call> calls = new ArrayList<>();
        for (int s = 0; s < SESSIONS; s++) {
            calls.add(Call.of("open", s, p));
        }
        for (int s = 0; s < SESSIONS; s++) {
            calls.add(Call.of("begin", s));
        }
        return calls;
    }

    /** Numbers too high, expected, remembered and forgotten; a session opened again expects low ones. */
    private List<Call> recordsProducedBy(int s) {
        List<Call> calls = new ArrayList<>();
        for (int tp : tps) {
            int highest = highestNumbers[s][tp];
            for (int number = highest + 2; number >= 0; number--) {
                if (number < 3 || number > highest - 5) {
                    calls.add(Call.of("produce", s, tp, number, -1, 0));
                }
            }
            calls.add(Call.of("log", tp, 1));
            calls.add(Call.of("log", tp, 2));
        }
        return calls;
    }
}
