import java.lang.reflect.InvocationTargetException;
import java.lang.reflect.Method;
import java.lang.reflect.Modifier;
import java.util.ArrayList;
import java.util.Arrays;
import java.util.List;
import java.util.Map;
import java.util.TreeMap;

/**
 * What stands behind a SnakeRoll that breaks a promise: a sound one, and a slip by which its answers go.
 * Public, as that SnakeRoll is loaded apart.
 */
public final class Broken {
    static final List<String> WITH_STATUS = List.of("row", "set", "copy", "drop", "who", "what", "as");
    private static final Map<String, Method> FACE = face();

    /** How a call is answered, and what is done with a new object. */
    interface Slip {
        long answer(Broken on, String call, int[] numbers);

        default void begin(Broken on) {
        }
    }

    private final SnakeRoll sound = new SnakeRoll();
    private final List<String> calls = new ArrayList<>();
    private final List<int[]> numbersOf = new ArrayList<>();
    private final Slip slip;
    /** What a slip of status() shows in its place. */
    long shown;

    public Broken() {
        this(Stage.slip);
        slip.begin(this);
    }

    private Broken(Slip slip) {
        this.slip = slip;
    }

    public long answer(String call, int... numbers) {
        return slip.answer(this, call, numbers);
    }

    long sound(String call, int... numbers) {
        calls.add(call);
        numbersOf.add(numbers);
        try {
            return ((Number) FACE.get(call).invoke(sound, Arrays.stream(numbers).boxed().toArray())).longValue();
        } catch (InvocationTargetException | IllegalAccessException e) {
            throw new IllegalStateException(e);
        }
    }

    /** Another one, with which the same has been done. */
    Broken twin() {
        Broken other = new Broken(slip);
        for (int i = 0; i < calls.size(); i++) other.sound(calls.get(i), numbersOf.get(i));
        return other;
    }

    Broken reads(String text) {
        for (char c : text.toCharArray()) sound("feed", c);
        sound("school");
        return this;
    }

    static Map<String, Method> face() {
        Map<String, Method> face = new TreeMap<>();
        for (Method m : SnakeRoll.class.getDeclaredMethods()) if (Modifier.isPublic(m.getModifiers())) face.put(m.getName(), m);
        return face;
    }

    /** The name of a refusal or finding; none, if it is a number. */
    static String refusal(long answer) {
        if (answer <= Run.FAULT && answer >= Run.FAULT - 120) return "FAULT";
        switch ((int) answer) {
            case Run.NONE: return "NONE";
            case Run.BAD: return "BAD";
            case Run.STATE: return "STATE";
            case Run.FULL: return "FULL";
            case Run.NULL: return "NULL";
            case Run.PLACE: return "PLACE";
            case Run.KIND: return "KIND";
            case Run.SIZE: return "SIZE";
            case Run.STORE: return "STORE";
            default: return "";
        }
    }
}
