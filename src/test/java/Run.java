import java.lang.reflect.InvocationTargetException;
import java.lang.reflect.Method;
import java.lang.reflect.Modifier;
import java.util.HashMap;
import java.util.Map;

/**
 * One object of SnakeRoll whose calls are told as texts, so that the same calls can be made again on a new one:
 * "days(3)"; "+ r0;" feeds these bytes; "= r0;" feeds them and reads the tape. LOW and HIGH are the least and the greatest int.
 */
final class Run {
    static final int NONE = -1000000, BAD = -1000001, STATE = -1000002, FULL = -1000003;
    static final int NULL = -1000011, PLACE = -1000012, KIND = -1000013, SIZE = -1000014, STORE = -1000015;
    static final int FAULT = -1000100;
    static final int LOW = Integer.MIN_VALUE, HIGH = Integer.MAX_VALUE;
    private static final int MOST_CALLS = 512;

    private static final Map<String, Method> FACE = new HashMap<>();
    private static final Map<String, Object[]> ARGUMENTS = new HashMap<>();

    static {
        for (Method m : SnakeRoll.class.getDeclaredMethods()) {
            if (Modifier.isPublic(m.getModifiers())) FACE.put(m.getName(), m);
        }
    }

    private final SnakeRoll roll = new SnakeRoll();
    private int calls;

    static Run of(String... steps) {
        return new Run().does(steps);
    }

    Run does(String... steps) {
        for (String step : steps) answer(step);
        return this;
    }

    Run times(int n, String step) {
        for (int i = 0; i < n; i++) answer(step);
        return this;
    }

    Run due(String step, long want) {
        Tally.due(step, answer(step), want);
        return this;
    }

    long answer(String step) {
        char first = step.charAt(0);
        if (first == '+' || first == '=') {
            long length = 0;
            for (char c : step.substring(2).toCharArray()) length = call("feed", new Object[] {(int) c});
            return first == '+' ? length : call("school", new Object[0]);
        }
        return call(step.substring(0, step.indexOf('(')), ARGUMENTS.computeIfAbsent(step, Run::arguments));
    }

    private long call(String name, Object[] arguments) {
        calls++;
        // What an object answers behind these is free, so a test that went on would hold it to nothing.
        if (calls > MOST_CALLS) throw new IllegalStateException("a test makes more than 512 calls of one object");
        try {
            return ((Number) FACE.get(name).invoke(roll, arguments)).longValue();
        } catch (InvocationTargetException e) {
            Tally.tell(name + " threw " + e.getCause());
            return Long.MIN_VALUE;
        } catch (IllegalAccessException e) {
            throw new IllegalStateException(e);
        }
    }

    static Object[] arguments(String step) {
        String inside = step.substring(step.indexOf('(') + 1, step.length() - 1).trim();
        if (inside.isEmpty()) return new Object[0];
        String[] words = inside.split(" *, *");
        Object[] numbers = new Object[words.length];
        for (int i = 0; i < words.length; i++) {
            numbers[i] = words[i].equals("LOW") ? LOW : words[i].equals("HIGH") ? HIGH : Integer.parseInt(words[i]);
        }
        return numbers;
    }
}
