import java.lang.reflect.Method;
import java.lang.reflect.Modifier;
import java.util.ArrayList;
import java.util.Arrays;
import java.util.List;

/**
 * Each call with all its numbers at their edges, every one with every other, in several states, against the model;
 * behind the calls all that can be looked at must be the same.
 */
public final class EdgeModelTest {
    private static final int LOW = Integer.MIN_VALUE, HIGH = Integer.MAX_VALUE;
    private static final int CALLS = 512;
    private static final List<Method> FACE = new ArrayList<>();
    private static final List<String> LOOK = look();

    private static long answers;
    private static int wrong;

    private final String[] steps;
    private SnakeRoll roll;
    private Model model;
    private int calls;

    private EdgeModelTest(String... steps) {
        this.steps = steps;
    }

    public static void main(String[] args) throws Exception {
        for (Method m : SnakeRoll.class.getDeclaredMethods()) if (Modifier.isPublic(m.getModifiers())) FACE.add(m);
        FACE.sort((a, b) -> a.getName().compareTo(b.getName()));
        String rows = "row(0, 0, 3)|set(0, 0, 1)|set(0, 1, 2)|set(0, 2, 3)|row(1, 1, 4)|set(1, 1, 1)|row(2, 2, 12)|set(2, 0, 2)|row(3, 0, 0)|row(7, 0, 40)|set(7, 39, 2)";
        new EdgeModelTest().allCalls();
        new EdgeModelTest(rows.split("\\|")).allCalls();
        new EdgeModelTest(("= r0;j0;d0;c0;|" + rows + "|image(0)|as(0, 5)").split("\\|")).allCalls();
        new EdgeModelTest(("= r1;j0;j1;j0;j6;j0;j31;d0;d1;d2;d3;d4;d5;d0;d3;c0;q1;w3;s0;o15;c0;|days(5)|change(0, 4)|teach(7, 5)|tell(2, 2)|" + rows
            + "|image(1)|ask(1, 0)|+ r1;j0;d0;q1;").split("\\|")).allCalls();
        System.out.println("EdgeModelTest: " + answers + " answers, " + wrong + " wrong");
        if (wrong != 0) System.exit(1);
    }

    private void allCalls() throws Exception {
        for (Method m : FACE) {
            begin();
            int[] numbers = new int[m.getParameterCount()];
            product(m, numbers, 0);
            finish();
        }
    }

    private void product(Method m, int[] numbers, int at) throws Exception {
        if (at == numbers.length) {
            if (calls > CALLS - LOOK.size() - 1) {
                finish();
                begin();
            }
            same(m.getName(), numbers);
            return;
        }
        for (int edge : edges(m.getName() + at)) {
            numbers[at] = edge;
            product(m, numbers, at + 1);
        }
    }

    private void begin() throws Exception {
        roll = new SnakeRoll();
        model = new Model();
        calls = 0;
        for (String step : steps) {
            if (step.charAt(0) == '=' || step.charAt(0) == '+') {
                for (char c : step.substring(2).toCharArray()) same("feed", c);
                if (step.charAt(0) == '=') told("school()");
            } else {
                told(step);
            }
        }
    }

    private void finish() throws Exception {
        for (String call : LOOK) told(call);
    }

    private void told(String call) throws Exception {
        Object[] boxed = Run.arguments(call);
        int[] numbers = new int[boxed.length];
        for (int i = 0; i < numbers.length; i++) numbers[i] = (Integer) boxed[i];
        same(call.substring(0, call.indexOf('(')), numbers);
    }

    private void same(String name, int... numbers) throws Exception {
        calls++;
        answers++;
        Object[] boxed = new Object[numbers.length];
        for (int i = 0; i < numbers.length; i++) boxed[i] = numbers[i];
        Method method = null;
        for (Method m : FACE) if (m.getName().equals(name)) method = m;
        long got;
        try {
            got = ((Number) method.invoke(roll, boxed)).longValue();
        } catch (java.lang.reflect.InvocationTargetException e) {
            got = LOW - 1L;
            System.out.println(name + Arrays.toString(numbers) + " threw " + e.getCause());
        }
        long due = model.call(name, numbers);
        if (got != due && ++wrong <= 40) System.out.println(name + Arrays.toString(numbers) + " answered " + got + ", due is " + due);
    }

    private static List<String> look() {
        List<String> calls = new ArrayList<>(List.of("status()", "fault()"));
        for (int what = 0; what <= 7; what++) calls.add("count(" + what + ")");
        for (int i = 0; i < 7; i++) calls.add("trace(" + i + ")");
        for (int p = 0; p < 6; p++) {
            calls.addAll(List.of("pupil(" + p + ", 0)", "pupil(" + p + ", 1)", "kind(" + p + ")"));
            for (int s = 0; s < 6; s++) calls.add("heard(" + p + ", " + s + ")");
        }
        for (int d = 0; d < 8; d++) calls.add("lesson(" + d + ")");
        for (int row = 0; row < 8; row++) calls.add("drop(" + row + ")");
        calls.addAll(List.of("undo()", "count(4)", "restore(0)", "count(5)", "restore(1)", "count(5)", "school()", "count(1)"));
        return calls;
    }

    private static int[] edges(String number) {
        switch (number) {
            case "row0": case "set0": case "drop0": return of(LOW, -1, 0, 3, 4, 7, 8, HIGH);
            case "copy0": case "copy2": return of(-1, 0, 1, 3, 4, 7, 8);
            case "who2": case "what2": return of(LOW, -1, 0, 2, 3, 4, 7, 8, HIGH);
            case "row1": return of(LOW, -1, 0, 1, 2, 3, HIGH);
            case "row2": return of(LOW, -1, 0, 1, 39, 40, 41, HIGH);
            case "set1": return of(LOW, -1, 0, 2, 3, 4, 11, 12, 39, 40, HIGH);
            case "set2": return of(LOW, -32769, -32768, -129, -128, -1, 0, 1, 127, 128, 255, 256, 32767, 32768, 65536, HIGH);
            case "copy1": case "copy3": return of(LOW, -1, 0, 2, 3, 39, 40, 41, HIGH);
            case "copy4": return of(LOW, -1, 0, 1, 3, 4, 40, 41, HIGH);
            case "who3": case "what3": return of(LOW, -1, 0, 1, 2, 3, 11, 28, 29, 39, 40, HIGH);
            case "who4": case "what4": return of(LOW, -1, 0, 1, 2, 3, 12, 13, HIGH);
            case "feed0": return of(LOW, -1, 0, 47, 48, 57, 58, 97, 122, 123, 255, 256, HIGH);
            case "days0": return of(LOW, -1, 0, 1, 24, 25, HIGH);
            case "lesson0": case "ahead1": case "drawn0": return of(LOW, -1, 0, 1, 7, 8, 59, 60, 61, HIGH);
            case "seating0": return of(LOW, 0, 1, 12, 13, HIGH);
            case "table0": return of(LOW, -1, 0, 1, 2, 29, 30, 31, HIGH);
            case "thought2": return of(LOW, -1, 0, 1, 7, 8, 9, HIGH);
            case "thought3": return of(LOW, -1, 0, 1, 5, 9, 10, 11, HIGH);
            case "thought0": case "thought1": return of(LOW, -1, 0, 1, 5, 6, HIGH);
            case "drawn1": return of(LOW, -1, 0, 1, 2, 3, 4, 12, 999998, 999999, 1000000, HIGH);
            case "trace0": return of(LOW, -1, 0, 1, 5, 6, 15, 16, 17, HIGH);
            case "teach0": case "what0": return of(LOW, -2, -1, 0, 1, 7, 8, HIGH);
            case "count0": return of(LOW, -1, 0, 1, 2, 3, 4, 5, 6, 7, 8, HIGH);
            case "pupil1": case "as1": return of(LOW, -1, 0, 1, 2, 3, 4, 5, 6, HIGH);
            case "ahead2": case "shortest2": case "seating1": return of(LOW, -2, -1, 0, 1, 5, 6, HIGH);
            case "all0": case "questions0": case "top0": case "table1": case "who1": case "thought4": case "drawn2": case "ask1": case "image0": case "restore0":
                return of(LOW, -1, 0, 1, 2, HIGH);
            default: return of(LOW, -1, 0, 1, 2, 3, 4, 5, 6, 7, HIGH);
        }
    }

    private static int[] of(int... numbers) {
        return numbers;
    }
}
