/** The edges of a new object, of kinds, asks, the trace, counts and status: promises 1 and 36 to 41. */
public final class AskEdgesTest {
    private static final int NONE = Run.NONE, BAD = Run.BAD, STATE = Run.STATE, FULL = Run.FULL;
    private static final int NULL = Run.NULL, PLACE = Run.PLACE, KIND = Run.KIND, SIZE = Run.SIZE, STORE = Run.STORE;

    private static final String ALL_KINDS = "r0;j0;j0;j0;j0;j0;j0;d0;o63;s0;w7;q3;c1;o0;";
    private static final Scene AMID = Scene.amid(ALL_KINDS, "change(0, 5)", "change(0, 5)");
    private static final Scene LEAST = Scene.amid("r0;j0;d0;c0;", "tell(0, 0)", "forget(0, 0)");
    private static final Scene NOTHING = new Scene();
    private static final Scene NO_SCHOOL = new Scene("= r0,", "row(0, 0, 3)", "set(0, 0, 1)", "row(7, 2, 12)", "+ r0;j0;", "row(1, 0, -1)");

    public static void main(String[] args) {
        newObject();
        kinds();
        takenAs();
        asksWithinTheEnds();
        asksAndTheirTrace();
        traceAheadOfAsks();
        askedAnew();
        traces();
        counts();
        statusAtFirst();
        statusOfFindings();
        statusStays();
        statusOfOtherCalls();
        Tally.end("AskEdgesTest");
    }

    private static void newObject() {
        Tally.sentence("1", "No SCHOOL");
        Run run = new Run();
        for (int what = 0; what <= 7; what++) run.due("count(" + what + ")", 0);
        run.due("status()", 0).due("fault()", 0).due("undo()", STATE).due("restore(0)", STATE).due("restore(1)", STATE);
        for (int i = 0; i <= 16; i++) run.due("trace(" + i + ")", NONE);
        for (String call : new String[] {"days(1)", "lesson(0)", "all(0)", "seating(1, 0)", "table(1, 0)", "questions(0)", "top(0)", "drawn(0, 1, 0)", "image(0)"}) run.due(call, STATE);
        for (String call : new String[] {"change(0, 1)", "teach(0, 0)", "forget(0, 0)", "tell(0, 0)", "pupil(0, 0)", "heard(0, 0)", "subject(0)", "ahead(0, 0, -1)", "when(0, 0)",
            "follows(0)", "lacks(0, 0)", "shortest(0, 0, -1)", "fellows(0)", "who(0, 0, 0, 0, 1)", "what(-1, 0, 0, 0, 1)", "thought(0, 0, 0, 0, 0)", "kind(0)", "as(0, 0)", "ask(0, 0)"}) {
            run.due(call, BAD);
        }
        run.due("status()", 0);
        Tally.sentence("1", "each object has a state of its own");
        Run one = Run.of("= r0;j0;d0;c0;", "days(1)", "row(0, 0, 1)", "ask(0, 0)"), other = new Run();
        other.due("count(1)", 0).due("count(0)", 0).due("trace(0)", NONE);
        one.due("count(1)", 1).due("count(4)", 1).due("count(0)", 1);
    }

    private static void kinds() {
        Tally.sentence("36", "The KIND of a PUPIL, as told (1 to 5). BAD");
        AMID.ends("kind(#)", 0, 5, 5, 5).told("kind(1)", 4).told("kind(2)", 3).told("kind(3)", 2).told("kind(4)", 1);
        LEAST.ends("kind(#)", 0, 1, 0, 1);
        for (Scene none : new Scene[] {NOTHING, NO_SCHOOL}) none.never("kind(#)", BAD);
    }

    private static void takenAs() {
        Tally.sentence("37", "A PUPIL is taken as one of a KIND (0 .. 5): its number. BAD");
        AMID.ends("as(#, 0)", 0, 0, 5, 5).ends("as(0, #)", 0, 0, 5, 0).ends("as(5, #)", 0, 5, 5, 5);
        LEAST.ends("as(#, 1)", 0, 0, 0, 0).ends("as(0, #)", 0, 0, 5, KIND);
        for (Scene none : new Scene[] {NOTHING, NO_SCHOOL}) none.never("as(#, 0)", BAD).never("as(0, #)", BAD);
        Tally.sentence("37", "KIND: it is no such one");
        // By pupil, those of kinds 0 to 5 that it is.
        String[] is = {"100011", "100010", "110100", "111000", "110000", "100011"};
        for (int p = 0; p < 6; p++) {
            for (int k = 0; k <= 5; k++) {
                String call = "as(" + p + ", " + k + ")";
                if (is[p].charAt(k) == '1') AMID.toldWithoutFinding(call, p);
                else AMID.refused(call, KIND);
            }
        }
        Tally.sentence("37", "BAD ahead of KIND");
        AMID.refused("as(6, 1)", BAD).refused("as(-1, 5)", BAD).refused("as(4, 6)", BAD).refused("as(4, -1)", BAD);
    }

    private static void asksWithinTheEnds() {
        Tally.sentence("38", "An ASK (0, 1) of a PUPIL. BAD");
        // Old ones: twice FORM less 100; MARK is the number less that.
        AMID.ends("ask(#, 0)", 0, -188, 5, -200).ends("ask(#, 1)", 0, 188, 5, 205).ends("ask(0, #)", 0, -188, 1, 188).refused("ask(6, 2)", BAD);
        LEAST.ends("ask(#, 0)", 0, 0, 0, 0).ends("ask(0, #)", 0, 0, 1, 0);
        for (Scene none : new Scene[] {NOTHING, NO_SCHOOL}) none.never("ask(#, 0)", BAD).never("ask(0, #)", BAD);
    }

    private static void asksAndTheirTrace() {
        Tally.sentence("38, 39", "each of which leaves its number in THE TRACE as it begins");
        // Pupils in their own seats: old, snake, slow, quick, child, old; forms 6 0 3 2 1 0.
        int[][] answers = {{-188, 188}, {-100, 101}, {3 + 4 - 1000, 4 - 1000}, {-(2 + 12), 12}, {1 + 8, 8}, {-200, 205}};
        int[][][] bodies = {{{14, 13, 10}, {23, 20, 14, 13, 10}}, {{13, 10}, {23, 20, 13, 10}}, {{11, 10, 22, 21, 20}, {22, 21, 20}},
            {{12, 11, 10, 24, 21, 20}, {24, 21, 20}}, {{11, 10, 21, 20}, {21, 20}}, {{14, 13, 10}, {23, 20, 14, 13, 10}}};
        Run run = Run.of("= " + ALL_KINDS, "as(0, 1)");
        for (int p = 0; p < 6; p++) {
            for (int what = 0; what < 2; what++) {
                run.due("ask(" + p + ", " + what + ")", answers[p][what]);
                int[] left = bodies[p][what];
                for (int i = 0; i <= 16; i++) run.due("trace(" + i + ")", i < left.length ? left[i] : NONE);
            }
        }
        run.due("status()", 3).due("count(6)", 0).due("count(4)", 0);
    }

    private static void traceAheadOfAsks() {
        Tally.sentence("38", "THE TRACE is empty ahead of it");
        Run run = Run.of("= " + ALL_KINDS, "ask(3, 0)").due("trace(5)", 20).due("ask(1, 0)", -100).due("trace(0)", 13).due("trace(1)", 10).due("trace(2)", NONE).due("trace(5)", NONE);
        Tally.sentence("38", "What is refused changes nothing: the trace stays");
        run.due("ask(6, 0)", BAD).due("trace(0)", 13).due("ask(0, 2)", BAD).due("ask(0, -1)", BAD).due("ask(-1, 0)", BAD).due("trace(1)", 10).due("trace(2)", NONE);
        Tally.sentence("38", "no other call leaves anything in THE TRACE");
        run.does("as(0, 0)", "kind(0)", "days(1)", "pupil(0, 2)", "top(0)", "undo()", "image(0)", "restore(0)", "= r0;j0;d0;c0;").due("trace(0)", 13).due("trace(1)", 10).due("trace(2)", NONE);
    }

    private static void askedAnew() {
        Tally.sentence("38", "by FORM, number and SEAT as they are");
        Run run = Run.of("= r0;j0;j0;d0;c0;c0;q0;w0;", "change(0, 3)").due("ask(0, 1)", 3).due("ask(0, 0)", 3).due("ask(3, 1)", 3 - 1000).due("ask(3, 0)", -997);
        run.does("tell(0, 0)", "tell(0, 1)").due("ask(0, 0)", 5).does("change(2, 3)").due("ask(2, 1)", 4).due("ask(2, 0)", -4).does("tell(2, 1)").due("ask(2, 0)", -5);
        Run.of("= r0;j0;j0;d0;s0;o0;", "change(0, 1)").due("ask(0, 1)", 100).due("ask(1, 1)", 201).does("tell(1, 0)").due("ask(1, 1)", 199).due("ask(1, 0)", -198);
    }

    private static void traces() {
        Tally.sentence("39", "Number i of THE TRACE; NONE");
        NOTHING.never("trace(#)", NONE);
        NO_SCHOOL.never("trace(#)", NONE).refused("trace(15)", NONE).refused("trace(16)", NONE);
        AMID.told("trace(0)", 14).told("trace(2)", 10).told("trace(3)", NONE).told("trace(-1)", NONE).told("trace(15)", NONE).told("trace(16)", NONE).told("trace(17)", NONE)
            .told("trace(LOW)", NONE).told("trace(HIGH)", NONE);
        AMID.and("ask(3, 0)").told("trace(0)", 12).told("trace(5)", 20).told("trace(6)", NONE).told("trace(-1)", NONE);
    }

    private static void counts() {
        Tally.sentence("40", "How many. BAD");
        NOTHING.ends("count(#)", 0, 0, 7, 0);
        NO_SCHOOL.ends("count(#)", 0, 2, 7, 6);
        AMID.ends("count(#)", 0, 5, 7, 18);
        LEAST.ends("count(#)", 0, 5, 7, 18);
        int[] amid = {5, 6, 6, 1, 0, 12, 2, 18};
        for (int what = 0; what < 8; what++) AMID.told("count(" + what + ")", amid[what]);
        Tally.sentence("40", "the most of each");
        Run most = Run.of("= r6;j0;j0;j0;j0;j0;j0;d0;d1;d2;d3;d4;d5;d0;d1;c0;c0;c0;c0;c0;c0;").times(41, "days(24)").does("days(15)");
        for (int row = 0; row < 8; row++) most.does("row(" + row + ", 0, 40)");
        most.times(125, "feed(120)");
        int[] counts = {8, 6, 6, 8, 999, 36, 24, 120};
        for (int what = 0; what < 8; what++) most.due("count(" + what + ")", counts[what]);
    }

    private static void statusAtFirst() {
        Tally.sentence("41", "0: it had none, or there was none");
        new Run().due("status()", 0).does("row(8, 0, 1)", "set(8, 0, 1)", "copy(8, 0, 0, 0, 0)", "drop(8)", "as(0, 0)", "who(0, 0, 0, 0, 1)").due("status()", 0)
            .does("feed(300)", "days(1)", "undo()").due("status()", 0);
    }

    private static void statusOfFindings() {
        Tally.sentence("41", "the number of its FINDING");
        Run run = Run.of("= r0;j0;d0;c0;", "row(0, 0, 2)", "row(1, 1, 2)");
        String[] found = {"set(2, 0, 0)", "set(0, 2, 0)", "as(0, 4)", "row(2, 0, -1)", "copy(0, 0, 1, 0, 1)", "copy(0, 0, 2, 0, 1)", "copy(0, 0, 0, 1, 2)", "drop(2)",
            "who(0, 0, 2, 0, 1)", "who(0, 1, 0, 2, 1)", "what(-1, 0, 2, 0, 1)", "what(0, 0, 0, 1, 2)"};
        int[] answers = {NULL, PLACE, KIND, SIZE, STORE, NULL, PLACE, NULL, NULL, PLACE, NULL, PLACE};
        String[] fine = {"row(3, 0, 0)", "set(0, 0, 0)", "copy(0, 0, 0, 0, 0)", "as(0, 0)", "as(0, 1)", "who(0, 0, 0, 0, 1)", "who(0, 1, 0, 0, 1)", "what(0, 0, 0, 0, 1)", "what(-1, 0, 0, 0, 1)"};
        for (int f = 0; f < found.length; f++) {
            run.due(found[f], answers[f]).due("status()", -1000010 - answers[f]);
            // Another finding comes in its place, and a call that has none clears it.
            run.due(found[(f + 1) % 3], answers[(f + 1) % 3]).due("status()", -1000010 - answers[(f + 1) % 3]);
            run.does(fine[f % fine.length]).due("status()", 0);
        }
        run.due("set(0, 9, 9)", PLACE).due("drop(3)", 0).due("status()", 0);
    }

    private static void statusStays() {
        Tally.sentence("41", "Of the latest call that was not BAD, STATE, FULL");
        String[] bad = {"row(8, 0, 1)", "row(0, 3, 1)", "row(0, 0, 41)", "row(8, 0, -1)", "set(8, 0, 0)", "set(-1, 0, 0)", "copy(0, 0, 8, 0, 0)", "copy(-1, 0, 0, 0, 0)", "drop(8)", "drop(-1)",
            "who(1, 0, 0, 0, 1)", "who(0, 2, 0, 0, 1)", "who(0, 0, 8, 0, 1)", "who(0, 0, 0, 0, 0)", "who(0, 0, 0, 0, 13)", "what(-2, 0, 0, 0, 1)", "what(1, 0, 0, 0, 1)", "what(0, 1, 0, 0, 1)",
            "what(0, 0, 8, 0, 1)", "what(0, 0, 0, 0, 0)", "as(1, 0)", "as(0, 6)", "as(-1, 5)"};
        Run run = Run.of("= r0;j0;d0;c0;", "row(0, 0, 2)", "as(0, 5)");
        for (String call : bad) run.due(call, BAD).due("status()", 3);
        run.does("as(0, 0)");
        for (String call : bad) run.due(call, BAD).due("status()", 0);
    }

    private static void statusOfOtherCalls() {
        Tally.sentence("41", "the latest call with a ROW, or as(): others leave it");
        String[] others = {"feed(114)", "school()", "fault()", "undo()", "days(1)", "days(25)", "change(0, 1)", "change(0, 0)", "teach(0, 0)", "teach(9, 0)", "tell(1, 0)", "forget(1, 0)", "forget(1, 0)",
            "pupil(0, 0)", "heard(0, 0)", "subject(0)", "lesson(0)", "ahead(0, 1, -1)", "when(0, 0)", "all(0)", "follows(0)", "lacks(0, 0)", "shortest(0, 0, 0)", "seating(1, 0)", "table(1, 0)",
            "questions(0)", "top(0)", "fellows(0)", "thought(0, 0, 1, 1, 0)", "drawn(1, 1, 0)", "image(0)", "restore(0)", "restore(1)", "kind(0)", "ask(0, 0)", "ask(9, 0)", "trace(0)", "count(0)", "undo()"};
        for (String finding : new String[] {"as(0, 5)", "drop(5)", "row(1, 1, 1)"}) {
            Run run = Run.of("= r0;j0;d0;c0;c0;", "row(0, 0, 2)", finding);
            int due = finding.equals("as(0, 5)") ? 3 : finding.equals("drop(5)") ? 1 : 0;
            for (String call : others) run.does(call).due("status()", due).due("status()", due);
            run.times(121, "feed(0)").due("feed(0)", FULL).due("status()", due);
        }
    }
}
