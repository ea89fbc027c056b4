import java.lang.reflect.InvocationTargetException;
import java.lang.reflect.Method;
import java.lang.reflect.Modifier;
import java.util.ArrayList;
import java.util.Arrays;
import java.util.Comparator;
import java.util.List;
import java.util.Random;

/** Calls by a fixed seed, and after each one what must hold whatever was called. */
public final class RandomCallsTest {
    private static final int OBJECTS = 300;
    private static final int CALLS = 512;
    private static final int TPS = 12;

    private final Random random;
    private final List<Method> methods = new ArrayList<>();
    private final int[][] sizes = new int[3][];
    private final int[][] nextNumbers = new int[6][TPS];
    private LogBroker broker;
    private int wrong;

    private RandomCallsTest(long seed) {
        random = new Random(seed);
        for (Method method : LogBroker.class.getDeclaredMethods()) {
            if (Modifier.isPublic(method.getModifiers())) {
                methods.add(method);
            }
        }
        // Reflection tells methods in no order, and the same seed should make the same calls.
        methods.sort(Comparator.comparing(Method::getName));
    }

    public static void main(String[] args) throws IllegalAccessException {
        int wrong = 0;
        for (int seed = 0; seed < OBJECTS && wrong == 0; seed++) {
            RandomCallsTest test = new RandomCallsTest(seed);
            test.play(seed);
            wrong += test.wrong;
        }
        if (wrong != 0) {
            System.exit(1);
        }
    }

    private void play(long seed) throws IllegalAccessException {
        broker = new LogBroker();
        for (int t = 0; t < 3; t++) {
            if (random.nextInt(4) > 0) {
                sizes[t] = new int[] {1 + random.nextInt(3), 1 + random.nextInt(4), 1 + random.nextInt(5)};
                broker.topic(t, sizes[t][0], sizes[t][1], sizes[t][2], random.nextInt(3) > 0);
            }
        }
        int[] before = snapshot();
        for (int call = 0; call < CALLS && wrong == 0; call++) {
            Method method = methods.get(random.nextInt(3) > 0 ? indexOfProduce() : random.nextInt(methods.size()));
            Object[] values = arguments(method);
            boolean refused = callAndTellIfRefused(method, values);
            int[] after = snapshot();
            String where = "seed " + seed + ", call " + call + ", " + method.getName() + Arrays.toString(values);
            check(!refused || Arrays.equals(before, after), where + " threw and changed something");
            checkThatNumbersFit(where);
            before = after;
        }
    }

    private int indexOfProduce() {
        for (int i = 0; i < methods.size(); i++) {
            if (methods.get(i).getName().equals("produce")) {
                return i;
            }
        }
        throw new AssertionError("no produce");
    }

    private Object[] arguments(Method method) {
        Object[] values = new Object[method.getParameterCount()];
        boolean good = random.nextInt(20) > 0;
        for (int i = 0; i < values.length; i++) {
            if (method.getParameterTypes()[i] == boolean.class) {
                values[i] = random.nextBoolean();
            } else {
                values[i] = good ? random.nextInt(6) : random.nextInt(70) - 5;
            }
        }
        if (method.getName().equals("produce") && good) {
            int s = random.nextInt(6);
            int tp = random.nextInt(TPS);
            values[0] = s;
            values[1] = tp;
            values[2] = Math.max(0, nextNumbers[s][tp] - (random.nextInt(5) == 0 ? random.nextInt(5) : 0));
        }
        return values;
    }

    private boolean callAndTellIfRefused(Method method, Object[] values) throws IllegalAccessException {
        try {
            method.invoke(broker, values);
            if (method.getName().equals("produce")) {
                int s = (Integer) values[0];
                int tp = (Integer) values[1];
                nextNumbers[s][tp] = Math.max(nextNumbers[s][tp], (Integer) values[2] + 1);
            }
            if (method.getName().equals("open")) {
                Arrays.fill(nextNumbers[(Integer) values[0]], 0);
            }
            if (method.getName().equals("topic")) {
                sizes[(Integer) values[0]] = new int[] {(Integer) values[1], (Integer) values[2], (Integer) values[3]};
            }
            return false;
        } catch (InvocationTargetException e) {
            Class<?> thrown = e.getCause().getClass();
            check(Arrays.asList(method.getExceptionTypes()).contains(thrown), method.getName() + " threw " + thrown);
            return true;
        }
    }

    private boolean isThere(int tp) {
        return sizes[tp / 4] != null && tp % 4 < sizes[tp / 4][0];
    }

    /** All that can be asked without changing anything. */
    private int[] snapshot() {
        List<Integer> seen = new ArrayList<>();
        for (int what = 0; what < 8; what++) {
            seen.add(broker.count(what));
        }
        for (int tp = 0; tp < TPS; tp++) {
            if (isThere(tp)) {
                for (int what = 0; what < 9; what++) {
                    seen.add(broker.log(tp, what));
                }
                for (int offset = broker.log(tp, 0); offset < broker.log(tp, 1); offset++) {
                    for (int what = 0; what < 5; what++) {
                        seen.add(toldOr(tp, offset, what, -9));
                    }
                }
                seen.add(ownerOr(0, tp, -9));
                seen.add(ownerOr(1, tp, -9));
            }
        }
        return seen.stream().mapToInt(Integer::intValue).toArray();
    }

    private int toldOr(int tp, int offset, int what, int gone) {
        try {
            return broker.told(tp, offset, what);
        } catch (java.util.NoSuchElementException e) {
            return gone;
        }
    }

    private int ownerOr(int g, int tp, int nobody) {
        try {
            return broker.owner(g, tp);
        } catch (java.util.NoSuchElementException e) {
            return nobody;
        }
    }

    private int fetchOr(int tp, int offset, boolean committed, int none) {
        try {
            return broker.fetch(tp, offset, committed);
        } catch (java.util.NoSuchElementException e) {
            return none;
        }
    }

    private void checkThatNumbersFit(String where) {
        int ends = 0;
        int present = 0;
        for (int tp = 0; tp < TPS; tp++) {
            if (isThere(tp)) {
                checkLog(tp, where);
                ends += broker.log(tp, 1);
                present += broker.log(tp, 3);
            }
        }
        check(broker.count(0) == ends, where + ": all that was written has an offset");
        check(broker.count(0) == present + broker.count(3) + broker.count(4),
            where + ": what was written is there or gone one way");
    }

    private void checkLog(int tp, String where) {
        int start = broker.log(tp, 0);
        int end = broker.log(tp, 1);
        int stable = end;
        int present = 0;
        for (int offset = end - 1; offset >= start; offset--) {
            int state = toldOr(tp, offset, 4, -9);
            present += state == -9 ? 0 : 1;
            stable = state == 2 ? offset : stable;
        }
        int size = sizes[tp / 4][1];
        check(start % size == 0 && start <= end && end <= 60, where + ": start and end of " + tp);
        check(broker.log(tp, 2) == stable, where + ": stable offset of " + tp);
        check(broker.log(tp, 3) == present, where + ": records there in " + tp);
        check(broker.log(tp, 4) == end / size - start / size, where + ": closed segments of " + tp);
        for (int what = 5; what < 9; what++) {
            check(broker.log(tp, what) >= 0 && broker.log(tp, what) <= end, where + ": positions of " + tp);
        }
        checkReaders(tp, start, end, stable, where);
    }

    private void checkReaders(int tp, int start, int end, int stable, String where) {
        int anyData = -9;
        int committedData = -9;
        for (int offset = end; offset >= start; offset--) {
            if (offset < end && toldOr(tp, offset, 2, -9) == 0) {
                anyData = offset;
                committedData = offset < stable && broker.told(tp, offset, 4) == 0 ? offset : committedData;
            }
            check(fetchOr(tp, offset, false, -9) == anyData, where + ": fetch for all from " + offset + " of " + tp);
            check(fetchOr(tp, offset, true, -9) == committedData, where + ": fetch from " + offset + " of " + tp);
        }
    }

    private void check(boolean holds, String what) {
        if (!holds) {
            wrong++;
            System.out.println("does not hold: " + what);
        }
    }
}
