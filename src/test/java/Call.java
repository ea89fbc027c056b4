import java.util.Arrays;
import java.util.regex.Matcher;
import java.util.regex.Pattern;
import java.util.stream.Collectors;
import java.util.stream.IntStream;

/** A call of the face, to be made on any object. */
final class Call {
    private static final Pattern FORM = Pattern.compile("(\\w+)\\(([^)]*)\\)");

    final String name;
    final int[] numbers;
    /** The last argument of topic, end and fetch, which is no number. */
    final boolean flag;

    private Call(String name, int[] numbers, boolean flag) {
        this.name = name;
        this.numbers = numbers;
        this.flag = flag;
    }

    static Call of(String name, int... numbers) {
        return new Call(name, numbers, false);
    }

    static Call flagged(String name, boolean flag, int... numbers) {
        return new Call(name, numbers, flag);
    }

    /** Reads the form that README.md tells, such as end(0, true). */
    static Call read(String text) {
        Matcher form = FORM.matcher(text);
        if (!form.matches()) {
            throw new IllegalArgumentException("not a call: " + text);
        }
        String[] words = form.group(2).split(", *");
        String last = words[words.length - 1];
        boolean flagged = last.equals("true") || last.equals("false");
        int[] numbers = Arrays.stream(words).limit(words.length - (flagged ? 1 : 0))
            .mapToInt(Integer::parseInt).toArray();
        return new Call(form.group(1), numbers, last.equals("true"));
    }

    /** The answer as a text: a number, "done" where there is none, or the exception's name. */
    String answerOf(LogBroker broker) {
        try {
            return answer(broker, numbers);
        } catch (RuntimeException e) {
            return e.getClass().getSimpleName();
        }
    }

    private String answer(LogBroker broker, int[] n) {
        switch (name) {
            case "topic":
                broker.topic(n[0], n[1], n[2], n[3], flag);
                return "done";
            case "begin":
                broker.begin(n[0]);
                return "done";
            case "keep":
                broker.keep(n[0], n[1], n[2], n[3], n[4]);
                return "done";
            default:
                return Integer.toString(number(broker, n));
        }
    }

    private int number(LogBroker broker, int[] n) {
        switch (name) {
            case "open": return broker.open(n[0], n[1]);
            case "produce": return broker.produce(n[0], n[1], n[2], n[3], n[4]);
            case "end": return broker.end(n[0], flag);
            case "fetch": return broker.fetch(n[0], n[1], flag);
            case "told": return broker.told(n[0], n[1], n[2]);
            case "compact": return broker.compact(n[0]);
            case "join": return broker.join(n[0], n[1], n[2]);
            case "leave": return broker.leave(n[0], n[1]);
            case "owner": return broker.owner(n[0], n[1]);
            case "poll": return broker.poll(n[0], n[1], n[2], n[3]);
            case "log": return broker.log(n[0], n[1]);
            case "count": return broker.count(n[0]);
            default: throw new AssertionError("no call of the face: " + name);
        }
    }

    @Override
    public String toString() {
        String list = IntStream.of(numbers).mapToObj(Integer::toString).collect(Collectors.joining(", "));
        boolean flagged = name.equals("topic") || name.equals("end") || name.equals("fetch");
        return name + "(" + list + (flagged ? ", " + flag : "") + ")";
    }
}
