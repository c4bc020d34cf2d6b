import java.lang.reflect.Method;
import java.util.ArrayList;
import java.util.Arrays;
import java.util.List;
import java.util.Random;

/** Runs of drawn calls on SnakeRoll and on the model; each answer must be the same. */
public final class ModelTest {
    private static final int RUNS = 1500;
    private static final Method[] CALLS = new Method[41];

    private final Random random;
    private final SnakeRoll roll = new SnakeRoll();
    private final Model model = new Model();
    private final List<String> log = new ArrayList<>();
    private int calls;
    private int dear;

    private ModelTest(long seed) {
        random = new Random(seed);
    }

    public static void main(String[] args) throws Exception {
        int found = 0;
        for (Method m : SnakeRoll.class.getDeclaredMethods()) {
            if (java.lang.reflect.Modifier.isPublic(m.getModifiers())) {
                if (found < CALLS.length) CALLS[found] = m;
                found++;
            }
        }
        if (found != 40) {
            System.out.println("the face has " + found + " calls, due are 40");
            System.exit(1);
        }
        Arrays.sort(CALLS, 0, 40, (a, b) -> a.getName().compareTo(b.getName()));
        long all = 0;
        int wrong = 0;
        for (int seed = 0; seed < RUNS && wrong < 5; seed++) {
            ModelTest run = new ModelTest(seed);
            if (!run.runs()) {
                wrong++;
                System.out.println("seed " + seed + ":");
                int from = Math.max(0, run.log.size() - 60);
                for (String line : run.log.subList(from, run.log.size())) System.out.println("  " + line);
            }
            all += run.calls;
        }
        System.out.println("ModelTest: " + all + " calls, " + wrong + " runs wrong");
        if (wrong != 0) System.exit(1);
    }

    private boolean runs() throws Exception {
        int style = random.nextInt(10);
        if (style != 0 && !feedText(tellSchool(), true)) return false;
        while (calls < 512) {
            if (random.nextInt(120) == 0) {
                if (!feedText(tellSchool(), random.nextInt(5) != 0)) return false;
            } else if (style == 1 && random.nextInt(2) == 0) {
                if (!same(named("days"), 20 + random.nextInt(5))) return false;
            } else if (style == 2 && random.nextInt(3) == 0) {
                if (!tellForms()) return false;
            } else if (!drawCall()) {
                return false;
            }
        }
        return true;
    }

    private static Method named(String name) {
        for (int i = 0; i < 40; i++) if (CALLS[i].getName().equals(name)) return CALLS[i];
        throw new IllegalArgumentException(name);
    }

    private boolean same(Method m, int... args) throws Exception {
        if (calls >= 512) return true;
        calls++;
        Object[] boxed = new Object[args.length];
        for (int i = 0; i < args.length; i++) boxed[i] = args[i];
        long got;
        try {
            got = ((Number) m.invoke(roll, boxed)).longValue();
        } catch (java.lang.reflect.InvocationTargetException e) {
            log.add(m.getName() + Arrays.toString(args) + " threw " + e.getCause());
            return false;
        }
        long due = model.call(m.getName(), args);
        log.add(m.getName() + Arrays.toString(args) + " answered " + got + (got == due ? "" : ", due is " + due));
        return got == due;
    }

    private boolean feedText(String text, boolean read) throws Exception {
        if (model.tape.length() > 0 && random.nextInt(3) != 0 && !same(named("school"))) return false;
        for (char c : text.toCharArray()) if (!same(named("feed"), c)) return false;
        return !read || same(named("school")) && same(named("fault"));
    }

    private String tellSchool() {
        StringBuilder b = new StringBuilder();
        int subjects = 1 + random.nextInt(6);
        int most = random.nextInt(3) == 0 ? 7 : 6;
        if (random.nextInt(3) == 0) subjects = most;
        b.append('r').append(random.nextInt(random.nextInt(3) == 0 ? 8 : 4)).append(';');
        for (int s = 0; s < subjects; s++) b.append('j').append(someBits(s)).append(';');
        int lessons = 1 + random.nextInt(random.nextInt(6) == 0 ? 9 : 8);
        for (int l = 0; l < lessons; l++) b.append('d').append(random.nextInt(Math.min(6, subjects))).append(';');
        int pupils = 1 + random.nextInt(random.nextInt(6) == 0 ? 7 : 6);
        for (int p = 0; p < pupils; p++) b.append("cqwso".charAt(random.nextInt(5))).append(someBits(Math.min(6, subjects))).append(';');
        if (random.nextInt(5) == 0) spoil(b);
        return b.toString();
    }

    private int someBits(int n) {
        int bits = random.nextInt(1 << n);
        return random.nextInt(2) == 0 ? bits & random.nextInt(1 << n) : bits;
    }

    private void spoil(StringBuilder b) {
        String bytes = "rjdcqwso;,0123456789 aA\u0000\u00ff";
        int at = random.nextInt(b.length());
        char c = bytes.charAt(random.nextInt(bytes.length()));
        switch (random.nextInt(4)) {
            case 0: b.setCharAt(at, c); break;
            case 1: b.insert(at, c); break;
            case 2: b.deleteCharAt(at); break;
            default: b.setLength(at);
        }
    }

    /** Forms that do come about in some way, so that what fits is seldom nothing. */
    private boolean tellForms() throws Exception {
        if (model.now == null) return drawCall();
        int pupil = random.nextInt(model.now.pupils());
        int n = 1 + random.nextInt(random.nextInt(3) == 0 ? 12 : 4);
        Model.Roll r = model.now.twin();
        switch (random.nextInt(4)) {
            case 0: r.sorts.setCharAt(pupil, "cqwso".charAt(random.nextInt(5))); break;
            case 1: java.util.Collections.swap(r.seats, pupil, random.nextInt(r.pupils())); break;
            case 2: r.lessons.set(random.nextInt(r.lessons.size()), random.nextInt(r.needs.size())); break;
            default: r.reach = random.nextInt(7);
        }
        int row = random.nextInt(8);
        int from = random.nextInt(4);
        if (!same(named("row"), row, random.nextInt(3), from + n + random.nextInt(2))) return false;
        for (int d = 0; d < n; d++) {
            r.pass(false);
            if (!same(named("set"), row, from + d, r.knows.get(pupil).size())) return false;
        }
        return same(named("who"), pupil, 0, row, from, n) && same(named("who"), pupil, 1, row, from, n)
            && same(named("what"), -1, pupil, row, from, n)
            && same(named("what"), random.nextInt(r.lessons.size()), pupil, row, from, n);
    }

    private boolean drawCall() throws Exception {
        Method m = CALLS[random.nextInt(40)];
        String name = m.getName();
        if (name.equals("school") && random.nextInt(8) != 0) return true;
        if (name.equals("restore") && random.nextInt(3) != 0) return true;
        if (name.equals("seating") && ++dear > 3) return true;
        int[] args = new int[m.getParameterCount()];
        for (int i = 0; i < args.length; i++) args[i] = argument(name, i);
        if (name.equals("ask")) {
            if (!same(m, args)) return false;
            for (int i = 0; i < 7; i++) if (!same(named("trace"), i)) return false;
            return true;
        }
        if (!same(m, args)) return false;
        return random.nextInt(4) != 0 || same(named("status"));
    }

    private int argument(String name, int i) {
        switch (random.nextInt(40)) {
            case 0: return Integer.MIN_VALUE;
            case 1: return Integer.MAX_VALUE;
            case 2: return -1 - random.nextInt(3);
            case 3: return random.nextInt(130);
            default:
        }
        switch (name + i) {
            case "row0": case "set0": case "drop0": case "copy0": case "copy2": return random.nextInt(random.nextInt(3) == 0 ? 9 : 3);
            case "row1": return random.nextInt(20) == 0 ? 3 : random.nextInt(3);
            case "row2": return random.nextInt(44) - 2;
            case "set1": case "copy1": case "copy3": case "copy4": return random.nextInt(24) - 1;
            case "set2": return random.nextInt(3) == 0 ? random.nextInt() : random.nextInt(7);
            case "feed0": return random.nextInt(258) - 1;
            case "days0": return random.nextInt(4) != 0 ? 1 + random.nextInt(3) : random.nextInt(26);
            case "lesson0": case "ahead1": case "drawn0": return random.nextInt(64) - 1;
            case "seating0": return random.nextInt(14);
            case "table0": return random.nextInt(33);
            case "who4": case "what4": return random.nextInt(14);
            case "who2": case "what2": return random.nextInt(random.nextInt(3) == 0 ? 9 : 3);
            case "thought2": return random.nextInt(10);
            case "thought3": return random.nextInt(12);
            case "drawn1": return random.nextInt(8) == 0 ? 999990 + random.nextInt(14) : random.nextInt(1000000);
            case "trace0": return random.nextInt(18) - 1;
            case "count0": return random.nextInt(10) - 1;
            case "change1": return random.nextInt(6);
            case "pupil1": return random.nextInt(6);
            case "ahead2": case "shortest2": case "what0": case "seating1": return random.nextInt(9) - 1;
            case "all0": case "questions0": case "top0": case "table1": case "who1": case "thought4": case "drawn2": case "ask1":
            case "image0": case "restore0":
                return random.nextInt(10) == 0 ? random.nextInt(4) - 1 : random.nextInt(2);
            default: return random.nextInt(random.nextInt(4) == 0 ? 8 : 4);
        }
    }
}
