import java.util.ArrayList;
import java.util.Arrays;
import java.util.List;

/**
 * Calls that bring a new object to some state. Each call that is tried in a scene is tried on an object of its own,
 * and what is refused is looked at from all sides: the state behind it must be that of an object without the call.
 */
final class Scene {
    private final String[] steps;
    private long[][] views;
    private long status;

    Scene(String... steps) {
        this.steps = steps;
    }

    /**
     * A school in the midst of everything: a fault has been, there are acts, an image of the school (1) and one of another (0),
     * rows of all lanes (0, 3, 7 bytes, 1 shorts, 2 ints, 3 without an item, 4 to 6 missing), a trace, bytes on the tape, a finding.
     */
    static Scene amid(String school, String... acts) {
        List<String> steps = new ArrayList<>(List.of("= r7;", "= r0;j0;d0;s0;", "days(1)", "image(0)", "= " + school));
        steps.addAll(Arrays.asList(acts));
        steps.addAll(List.of("image(1)", "row(0, 0, 3)", "set(0, 0, 1)", "set(0, 1, 2)", "set(0, 2, 3)",
            "row(1, 1, 4)", "set(1, 0, 4)", "set(1, 3, 5)", "row(2, 2, 2)", "set(2, 0, 6)", "set(2, 1, 1)", "row(3, 0, 0)",
            "row(7, 0, 12)", "set(7, 0, 1)", "set(7, 1, 2)"));
        for (int i = 2; i < 12; i++) steps.add("set(7, " + i + ", 3)");
        steps.addAll(List.of("ask(0, 0)", "+ r1;j0;j0;d1;c1;q2;", "row(6, 0, -1)"));
        return new Scene(steps.toArray(new String[0]));
    }

    Scene and(String... more) {
        String[] both = Arrays.copyOf(steps, steps.length + more.length);
        System.arraycopy(more, 0, both, steps.length, more.length);
        return new Scene(both);
    }

    Run run() {
        return Run.of(steps);
    }

    /** The answer of one call, and of those that tell what it did. */
    Scene due(String call, long want, Object... thenCallsAndAnswers) {
        Run run = run().due(call, want);
        for (int i = 0; i + 1 < thenCallsAndAnswers.length; i += 2) {
            String then = (String) thenCallsAndAnswers[i];
            Tally.due(call + ", then " + then, run.answer(then), ((Number) thenCallsAndAnswers[i + 1]).longValue());
        }
        return this;
    }

    /** A refusal or a finding: it changes nothing but status(), and that only by a finding. */
    Scene refused(String call, long want) {
        boolean finding = want < Run.FULL && want > Run.FAULT;
        run().due(call, want);
        look();
        Tally.due("status() behind " + call, run().does(call).answer("status()"), finding ? -1000010 - want : status);
        changesNothing(call);
        return this;
    }

    /** An answer that leaves all as it is, status() too. */
    Scene told(String call, long want) {
        look();
        return told(call, want, status);
    }

    /** An answer that leaves all as it is, of a call that has no finding: status() is 0 behind it. */
    Scene toldWithoutFinding(String call, long want) {
        look();
        return told(call, want, 0);
    }

    private Scene told(String call, long want, long statusThen) {
        run().due(call, want);
        Tally.due("status() behind " + call, run().does(call).answer("status()"), statusThen);
        changesNothing(call);
        return this;
    }

    /** The number for # goes from the least to the most; what is below or above is refused, up to the ends of int. */
    Scene ends(String call, int least, long atLeast, int most, long atMost, long below, long above) {
        due(call.replace("#", "" + least), atLeast);
        due(call.replace("#", "" + most), atMost);
        refused(call.replace("#", "" + (least - 1)), below);
        refused(call.replace("#", "LOW"), below);
        refused(call.replace("#", "" + (most + 1)), above);
        refused(call.replace("#", "HIGH"), above);
        return this;
    }

    Scene ends(String call, int least, long atLeast, int most, long atMost) {
        return ends(call, least, atLeast, most, atMost, Run.BAD, Run.BAD);
    }

    /** Every number is refused alike. */
    Scene never(String call, long want) {
        for (String number : List.of("LOW", "-1", "0", "1", "HIGH")) refused(call.replace("#", number), want);
        return this;
    }

    private void look() {
        if (views != null) return;
        status = run().answer("status()");
        views = new long[VIEWS.size()][];
        for (int v = 0; v < views.length; v++) views[v] = view(run(), VIEWS.get(v));
    }

    private void changesNothing(String call) {
        for (int v = 0; v < views.length; v++) {
            List<String> view = VIEWS.get(v);
            long[] seen = view(run().does(call), view);
            for (int i = 0; i < seen.length; i++) {
                if (seen[i] != views[v][i]) {
                    Tally.tell(call + " changed " + view.get(i) + " (view " + v + ", step " + i + ") from " + views[v][i] + " to " + seen[i]);
                    break;
                }
            }
        }
    }

    private static long[] view(Run run, List<String> view) {
        long[] seen = new long[view.size()];
        for (int i = 0; i < seen.length; i++) seen[i] = run.answer(view.get(i));
        return seen;
    }

    // ---- the sides from which a state is looked at; each begins with an object of its own

    private static final List<List<String>> VIEWS = List.of(counted(), taught(), kept(0), kept(1), done(), rows(), tape());

    private static List<String> counted() {
        List<String> calls = new ArrayList<>();
        for (int what = 0; what <= 7; what++) calls.add("count(" + what + ")");
        calls.add("fault()");
        for (int i = -1; i <= 16; i++) calls.add("trace(" + i + ")");
        return calls;
    }

    private static List<String> taught() {
        List<String> calls = new ArrayList<>();
        for (int p = 0; p < 6; p++) {
            for (int what = 0; what <= 4; what++) calls.add("pupil(" + p + ", " + what + ")");
            for (int s = 0; s < 6; s++) calls.add("heard(" + p + ", " + s + ")");
            calls.add("kind(" + p + ")");
            calls.add("ahead(" + p + ", 5, -1)");
        }
        for (int s = 0; s < 6; s++) calls.add("subject(" + s + ")");
        for (int d = 0; d < 8; d++) calls.add("lesson(" + d + ")");
        for (int what = 1; what <= 5; what++) calls.add("count(" + what + ")");
        return calls;
    }

    private static List<String> kept(int image) {
        List<String> calls = new ArrayList<>(List.of("restore(" + image + ")"));
        calls.addAll(taught());
        return calls;
    }

    private static List<String> done() {
        List<String> calls = new ArrayList<>();
        for (int act = 0; act <= 24; act++) {
            calls.add("undo()");
            calls.add("count(4)");
            for (int p = 0; p < 6; p++) calls.add("pupil(" + p + ", 0)");
            calls.addAll(List.of("pupil(0, 1)", "heard(0, 0)", "lesson(0)"));
        }
        return calls;
    }

    /** In this school pupil p has a FORM of p + 1 behind a day, so that items from 1 to 6 can be told. */
    private static List<String> rows() {
        List<String> calls = new ArrayList<>();
        for (int a = 0; a < 8; a++) calls.add("copy(" + a + ", 0, 0, 0, 0)");
        calls.add("school()");
        calls.add("= r6;j0;j0;j0;j0;j0;j0;d0;c1;c3;c7;c15;c31;c63;");
        int[] sizes = {3, 4, 2, 0, 0, 0, 0, 12};
        for (int row = 0; row < 8; row++) {
            for (int i = 0; i < sizes[row]; i++) {
                for (int p = 0; p < 6; p++) calls.add("who(" + p + ", 0, " + row + ", " + i + ", 1)");
            }
        }
        for (int row = 0; row < 8; row++) calls.add("drop(" + row + ")");
        return calls;
    }

    private static List<String> tape() {
        List<String> calls = new ArrayList<>(List.of("school()", "fault()", "count(7)"));
        calls.addAll(taught());
        return calls;
    }
}
