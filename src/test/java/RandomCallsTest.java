import java.lang.reflect.Method;
import java.lang.reflect.Modifier;
import java.util.ArrayList;
import java.util.Arrays;
import java.util.Comparator;
import java.util.List;
import java.util.Random;

/** Random calls by fixed seeds, and what must hold where they lead, whatever was called. */
public final class RandomCallsTest {
    private static final int OBJECTS = 120;
    private static final int MOST_CALLS_MADE = 350;
    private static final int REFUSALS_TRIED = 3;
    private static final int TOPICS = 3;
    private static final int TPS = 12;
    private static final int SESSIONS = 6;
    private static final String GONE = "NoSuchElementException";

    private final long seed;
    private final Random random;
    private final List<Method> methods = new ArrayList<>();
    private final LogBroker broker = new LogBroker();
    private final List<Call> way = new ArrayList<>();
    private final int[][] topics = new int[TOPICS][];
    private final int[][] nextNumbers = new int[SESSIONS][TPS];
    private State state;
    private int wrong;

    private RandomCallsTest(long seed) {
        this.seed = seed;
        random = new Random(seed);
        for (Method method : LogBroker.class.getDeclaredMethods()) {
            if (Modifier.isPublic(method.getModifiers())) {
                methods.add(method);
            }
        }
        // Reflection tells methods in no order, and the same seed should make the same calls.
        methods.sort(Comparator.comparing(Method::getName));
    }

    public static void main(String[] args) {
        int wrong = 0;
        for (int seed = 0; seed < OBJECTS && wrong == 0; seed++) {
            RandomCallsTest test = new RandomCallsTest(seed);
            test.play();
            wrong += test.wrong;
        }
        if (wrong != 0) {
            System.exit(1);
        }
    }

    private void play() {
        for (int t = 0; t < TOPICS; t++) {
            if (random.nextInt(4) > 0) {
                make(Call.flagged("topic", random.nextInt(3) > 0,
                    t, 1 + random.nextInt(3), 1 + random.nextInt(4), 1 + random.nextInt(5)));
            }
        }
        int length = random.nextInt(MOST_CALLS_MADE);
        while (way.size() < length) {
            make(randomCall());
        }
        state = new State(way);
        checkThatNumbersFit();
        for (int i = 0; i < REFUSALS_TRIED; i++) {
            checkThatARefusalChangesNothing(randomCall());
        }
    }

    private void make(Call call) {
        String answer = call.answerOf(broker);
        way.add(call);
        if (isRefusal(answer)) {
            check(declares(call.name, answer), call + " threw " + answer);
        } else {
            noteWhatCameOf(call);
        }
    }

    private static boolean isRefusal(String answer) {
        return answer.endsWith("Exception");
    }

    private boolean declares(String name, String exception) {
        for (Method method : methods) {
            if (method.getName().equals(name)) {
                return Arrays.stream(method.getExceptionTypes()).anyMatch(e -> e.getSimpleName().equals(exception));
            }
        }
        return false;
    }

    private void noteWhatCameOf(Call call) {
        int[] n = call.numbers;
        if (call.name.equals("topic")) {
            topics[n[0]] = new int[] {n[1], n[2]};
        }
        if (call.name.equals("open")) {
            Arrays.fill(nextNumbers[n[0]], 0);
        }
        if (call.name.equals("produce")) {
            nextNumbers[n[0]][n[1]] = Math.max(nextNumbers[n[0]][n[1]], n[2] + 1);
        }
    }

    private Call randomCall() {
        boolean good = random.nextInt(20) > 0;
        if (good && random.nextInt(3) > 0) {
            return likelyProduce();
        }
        Method method = methods.get(random.nextInt(methods.size()));
        Class<?>[] types = method.getParameterTypes();
        boolean flagged = types[types.length - 1] == boolean.class;
        int[] numbers = new int[types.length - (flagged ? 1 : 0)];
        for (int i = 0; i < numbers.length; i++) {
            numbers[i] = good ? random.nextInt(6) : random.nextInt(70) - 5;
        }
        return Call.flagged(method.getName(), flagged && random.nextBoolean(), numbers);
    }

    private Call likelyProduce() {
        int s = random.nextInt(SESSIONS);
        int tp = random.nextInt(TPS);
        int back = random.nextInt(5) == 0 ? random.nextInt(5) : 0;
        int number = Math.max(0, nextNumbers[s][tp] - back);
        return Call.of("produce", s, tp, number, random.nextInt(9) - 1, random.nextInt());
    }

    private void checkThatARefusalChangesNothing(Call call) {
        if (isRefusal(new State(way).answersTo(List.of(call)).get(0))) {
            List<String> differences = Twins.differencesBy(call, way);
            check(differences.isEmpty(), call + " is refused, but " + differences);
        }
    }

    private void checkThatNumbersFit() {
        int ends = 0;
        int present = 0;
        for (int tp = 0; tp < TPS; tp++) {
            if (isThere(tp)) {
                checkLog(tp);
                ends += log(tp, 1);
                present += log(tp, 3);
            }
        }
        check(count(0) == ends, "all that was written has an offset");
        check(count(0) == present + count(3) + count(4), "what was written is there or gone one way");
    }

    private boolean isThere(int tp) {
        return topics[tp / 4] != null && tp % 4 < topics[tp / 4][0];
    }

    private void checkLog(int tp) {
        int start = log(tp, 0);
        int end = log(tp, 1);
        int stable = end;
        int present = 0;
        for (int offset = end - 1; offset >= start; offset--) {
            String decided = told(tp, offset, 4);
            present += decided.equals(GONE) ? 0 : 1;
            stable = decided.equals("2") ? offset : stable;
        }
        int size = topics[tp / 4][1];
        check(start % size == 0 && start <= end && end <= 60, "start and end of " + tp);
        check(log(tp, 2) == stable, "stable offset of " + tp);
        check(log(tp, 3) == present, "records there in " + tp);
        check(log(tp, 4) == end / size - start / size, "closed segments of " + tp);
        for (int what = 5; what < 9; what++) {
            check(log(tp, what) >= 0 && log(tp, what) <= end, "positions of " + tp);
        }
        checkReaders(tp, start, end, stable);
    }

    private void checkReaders(int tp, int start, int end, int stable) {
        String anyData = GONE;
        String committedData = GONE;
        for (int offset = end; offset >= start; offset--) {
            if (told(tp, offset, 2).equals("0")) {
                anyData = Integer.toString(offset);
                committedData = offset < stable && told(tp, offset, 4).equals("0") ? anyData : committedData;
            }
            check(fetch(tp, offset, false).equals(anyData), "fetch for all from " + offset + " of " + tp);
            check(fetch(tp, offset, true).equals(committedData), "fetch from " + offset + " of " + tp);
        }
    }

    private int count(int what) {
        return state.askNumber(Call.of("count", what));
    }

    private int log(int tp, int what) {
        return state.askNumber(Call.of("log", tp, what));
    }

    private String told(int tp, int offset, int what) {
        return state.ask(Call.of("told", tp, offset, what));
    }

    private String fetch(int tp, int offset, boolean committed) {
        return state.ask(Call.flagged("fetch", committed, tp, offset));
    }

    private void check(boolean holds, String what) {
        if (!holds) {
            wrong++;
            System.out.println("seed " + seed + " after " + way.size() + " calls, does not hold: " + what);
        }
    }
}
