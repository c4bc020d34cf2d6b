import java.util.List;
import java.util.Map;
import java.util.Set;
import java.util.TreeSet;

/** Breaks the promises one by one, each in several ways, and looks whether PromiseTest finds it. */
public final class BreakTest {
    private static final String A_SCHOOL = "r0;j0;d0;c0;";
    /** Calls by which something is another then. */
    private static final Set<String> DOES = Set.of("row", "set", "copy", "drop", "feed", "school", "undo", "days", "change", "teach",
        "forget", "tell", "image", "restore", "ask");
    /** Numbers that no BAD is told for, below or above or both. */
    private static final Set<String> NEVER_BELOW = Set.of("row 2", "set 1", "set 2", "copy 1", "copy 3", "copy 4", "who 3", "what 3", "trace 0");
    private static final Set<String> NEVER_ABOVE = Set.of("set 1", "set 2", "copy 1", "copy 3", "copy 4", "who 3", "what 3", "trace 0", "shortest 2");
    private static final List<String> STATE_FIRST = List.of("days", "lesson", "all", "seating", "table", "questions", "top", "drawn");
    private static final int[] TAKEN = {-1, 0, 1, 2, 3, 4, 5, 6, 7, 8, 10, 12, 24, 30, 40, 60, 255, 999999};

    private static final Map<String, TreeSet<String>> REFUSALS = Readme.refusals();

    private final Stage stage = new Stage();

    private BreakTest() throws Exception {
    }

    public static void main(String[] args) throws Exception {
        new BreakTest().all();
        Tally.end("BreakTest");
    }

    private void all() throws Exception {
        Tally.sentence("1 to 41", "at least one test that would fail if the promise were broken");
        Tally.due("PromiseTest on a sound one", stage.wrongBy((on, call, numbers) -> on.sound(call, numbers)), 0);
        beginnings();
        for (String call : Broken.face().keySet()) {
            answers(call);
            for (String refusal : REFUSALS.get(call)) refused(call, refusal);
            for (int i = 0; i < Broken.face().get(call).getParameterCount(); i++) numbers(call, i);
            effects(call);
            statuses(call);
        }
        orders();
    }

    private void finds(String how, Broken.Slip slip) throws Exception {
        Tally.due("finding " + how, stage.wrongBy(slip) > 0 ? 1 : 0, 1);
    }

    private static boolean refusal(long answer) {
        return !Broken.refusal(answer).isEmpty();
    }

    /** A new object with which something has been done. */
    private void beginnings() throws Exception {
        begins("a school", on -> on.reads(A_SCHOOL));
        begins("a fault", on -> on.reads("r7;"));
        begins("a byte", on -> on.sound("feed", 'r'));
        begins("a finding", on -> on.sound("drop", 0));
        for (int row : new int[] {0, 7}) begins("a row " + row, on -> on.sound("row", row, 0, 0));
    }

    private interface Deed {
        void on(Broken one);
    }

    private void begins(String with, Deed deed) throws Exception {
        finds("a new object with " + with, new Broken.Slip() {
            @Override
            public void begin(Broken on) {
                deed.on(on);
            }

            @Override
            public long answer(Broken on, String call, int[] numbers) {
                return on.sound(call, numbers);
            }
        });
    }

    private void answers(String name) throws Exception {
        finds(name + " that answers one more", (on, call, numbers) -> {
            long answer = on.sound(call, numbers);
            return call.equals(name) && !refusal(answer) ? answer + 1 : answer;
        });
    }

    private void refused(String name, String refusal) throws Exception {
        finds(name + " that does not say " + refusal, (on, call, numbers) -> {
            long answer = on.sound(call, numbers);
            return call.equals(name) && Broken.refusal(answer).equals(refusal) ? 0 : answer;
        });
        if (refusal.equals("FAULT")) {
            finds(name + " that tells the place behind", (on, call, numbers) -> {
                long answer = on.sound(call, numbers);
                return Broken.refusal(answer).equals(refusal) ? answer - 1 : answer;
            });
        }
    }

    /** A number that is too small, or too great, is taken as the nearest that is not. */
    private void numbers(String name, int i) throws Exception {
        String number = name + " " + i;
        if (!NEVER_BELOW.contains(number)) taken(name, i, true);
        if (!NEVER_ABOVE.contains(number)) taken(name, i, false);
    }

    private void taken(String name, int i, boolean below) throws Exception {
        finds(name + " that takes a number " + i + (below ? " below" : " above"), (on, call, numbers) -> {
            if (call.equals(name) && on.twin().sound(call, numbers) == Run.BAD) {
                int[] nearest = nearest(on, call, numbers, i, below);
                if (nearest != null) return on.sound(call, nearest);
            }
            return on.sound(call, numbers);
        });
    }

    private static int[] nearest(Broken on, String call, int[] numbers, int i, boolean below) {
        for (int k = 0; k < TAKEN.length; k++) {
            int v = TAKEN[below ? k : TAKEN.length - 1 - k];
            if (below ? v <= numbers[i] : v >= numbers[i]) continue;
            int[] other = numbers.clone();
            other[i] = v;
            if (on.twin().sound(call, other) != Run.BAD) return other;
        }
        return null;
    }

    private void effects(String name) throws Exception {
        if (DOES.contains(name)) {
            finds(name + " that does nothing", (on, call, numbers) -> (call.equals(name) ? on.twin() : on).sound(call, numbers));
        }
        passes(name, false);
        if (!REFUSALS.get(name).isEmpty()) passes(name, true);
    }

    /** A day passes behind the call, that shall not. */
    private void passes(String name, boolean refused) throws Exception {
        finds("a day that passes by " + name + (refused ? ", refused" : ""), (on, call, numbers) -> {
            long answer = on.sound(call, numbers);
            if (call.equals(name) && refusal(answer) == refused) on.sound("days", 1);
            return answer;
        });
    }

    private void statuses(String name) throws Exception {
        if (name.equals("status")) return;
        boolean with = Broken.WITH_STATUS.contains(name);
        if (with) shows(name + " that leaves status()", (on, call, answer) -> call.equals(name));
        if (with) shows("a finding of " + name + " that leaves status()", (on, call, answer) -> call.equals(name) && refusal(answer));
        if (with) shows(name + " without a finding that leaves status()", (on, call, answer) -> call.equals(name) && !refusal(answer));
        if (!with || REFUSALS.get(name).contains("BAD")) {
            shows(name + " that makes status() 0" + (with ? ", BAD" : ""), (on, call, answer) -> {
                if (!call.equals(name) || with && answer != Run.BAD) return false;
                on.shown = 0;
                return true;
            });
        }
    }

    private interface Showing {
        /** Whether status() is not to be told anew behind a call. */
        boolean slips(Broken on, String call, long answer);
    }

    private void shows(String how, Showing showing) throws Exception {
        finds(how, (on, call, numbers) -> {
            if (call.equals("status")) return on.shown;
            long answer = on.sound(call, numbers);
            if (showing.slips(on, call, answer)) return answer;
            if (Broken.WITH_STATUS.contains(call) && answer != Run.BAD) on.shown = on.sound("status");
            return answer;
        });
    }

    /** Of two refusals that fit the other one is said. */
    private void orders() throws Exception {
        for (String name : STATE_FIRST) {
            finds(name + " that says BAD ahead of STATE", (on, call, numbers) -> {
                long answer = on.sound(call, numbers);
                boolean bad = call.equals(name) && answer == Run.STATE && on.twin().reads(A_SCHOOL).sound(call, numbers) == Run.BAD;
                return bad ? Run.BAD : answer;
            });
        }
        for (String name : List.of("image", "restore")) {
            finds(name + " that says STATE ahead of BAD", (on, call, numbers) -> {
                long answer = on.sound(call, numbers);
                return call.equals(name) && answer == Run.BAD && on.twin().sound(call, 0) == Run.STATE ? Run.STATE : answer;
            });
        }
        instead("days", Run.BAD, Run.FULL, 24);
        instead("feed", Run.BAD, Run.FULL, 'r');
        instead("row", Run.BAD, Run.SIZE, 0, 0, -1);
        copies();
    }

    /** The first refusal is not said where the second fits other numbers of the same call. */
    private void instead(String name, int first, int second, int... others) throws Exception {
        finds(name + " that says " + Broken.refusal(second) + " ahead of " + Broken.refusal(first), (on, call, numbers) -> {
            long answer = on.sound(call, numbers);
            if (!call.equals(name) || answer != first) return answer;
            boolean last = numbers.length == 1 || numbers[numbers.length - 1] < 0;
            return last && on.twin().sound(call, others) == second ? second : answer;
        });
    }

    private void copies() throws Exception {
        finds("copy that looks at places ahead of lanes", (on, call, numbers) -> {
            long answer = on.sound(call, numbers);
            return call.equals("copy") && answer == Run.STORE && (numbers[1] < 0 || numbers[3] < 0 || numbers[1] > 40) ? Run.PLACE : answer;
        });
        finds("copy that looks at places ahead of missing rows", (on, call, numbers) -> {
            long answer = on.sound(call, numbers);
            return call.equals("copy") && answer == Run.NULL && (numbers[1] < 0 || numbers[3] < 0) ? Run.PLACE : answer;
        });
        finds("copy that is BAD by a row behind a missing one", (on, call, numbers) -> {
            long answer = on.sound(call, numbers);
            return call.equals("copy") && answer == Run.BAD && on.twin().sound("drop", numbers[0]) == Run.NULL ? Run.NULL : answer;
        });
        finds("copy one by one from the front", (on, call, numbers) -> call.equals("copy") ? copiedOneByOne(on, numbers, true) : on.sound(call, numbers));
        finds("copy one by one from the end", (on, call, numbers) -> call.equals("copy") ? copiedOneByOne(on, numbers, false) : on.sound(call, numbers));
    }

    private static long copiedOneByOne(Broken on, int[] a, boolean front) {
        if (refusal(on.twin().sound("copy", a))) return on.sound("copy", a);
        for (int k = 0; k < a[4]; k++) {
            int at = front ? k : a[4] - 1 - k;
            on.sound("copy", a[0], a[1] + at, a[2], a[3] + at, 1);
        }
        return a[4];
    }
}
