/** The edges of DAYS and ACTS, and of what is told of the school as it stands: promises 9 to 18. */
public final class ActEdgesTest {
    private static final int BAD = Run.BAD, STATE = Run.STATE, FULL = Run.FULL;

    /** The most of all, six subjects that need nothing, all within reach, so that each day is learned by all. */
    private static final String MOST = "r6;j0;j0;j0;j0;j0;j0;d0;d1;d2;d3;d4;d5;d0;d1;c33;c0;c0;c0;c0;c33;";
    private static final Scene AMID = Scene.amid(MOST, "tell(2, 3)");
    private static final Scene LEAST = Scene.amid("r0;j0;d0;c0;", "tell(0, 0)", "forget(0, 0)");
    private static final Scene NOTHING = new Scene();
    private static final Scene NO_SCHOOL = new Scene("= r0,", "row(0, 0, 3)", "set(0, 0, 1)", "row(7, 2, 12)", "+ r0;j0;", "row(1, 0, -1)");

    public static void main(String[] args) {
        nothingToUndo();
        actsKept();
        actsUndoneLatestFirst();
        actsBehindUndone();
        days();
        lastDay();
        heardAtMost();
        reach();
        inFront();
        snakesHear();
        slowOnes();
        snakesLearn();
        oldOnes();
        quickOnes();
        atOnce();
        changes();
        teaches();
        forgets();
        tells();
        pupils();
        heardAndSubjects();
        lessons();
        withoutSchool();
        Tally.end("ActEdgesTest");
    }

    private static void nothingToUndo() {
        Tally.sentence("9", "STATE: none");
        NOTHING.refused("undo()", STATE);
        NO_SCHOOL.refused("undo()", STATE);
        AMID.and("undo()").refused("undo()", STATE);
        AMID.due("undo()", 0, "count(6)", 0, "pupil(2, 0)", 0, "undo()", STATE);
        Run.of("= " + MOST).due("undo()", STATE).due("days(1)", 8).due("undo()", 0).due("undo()", STATE).due("count(5)", 4);
        Tally.sentence("9, 7", "no ACT can be undone, of a school that is read");
        Run.of("= " + MOST, "days(3)", "= r0;j0;d0;c0;").due("undo()", STATE).due("count(6)", 0).due("count(4)", 0);
        Tally.sentence("9, 35", "no ACT can be undone then");
        Run.of("= " + MOST, "days(3)", "image(0)", "days(2)", "restore(0)").due("count(6)", 0).due("undo()", STATE).due("count(4)", 3);
    }

    private static void actsKept() {
        Tally.sentence("9", "24 at most are kept, of more the oldest is forgotten");
        for (int days = 22; days <= 26; days++) {
            Run run = Run.of("= r0;j0;d0;c0;").times(days, "days(1)");
            int kept = Math.min(days, 24);
            run.due("count(6)", kept);
            for (int left = kept - 1; left >= 0; left--) run.due("undo()", left).due("count(6)", left);
            run.due("count(4)", days - kept).due("undo()", STATE).due("count(4)", days - kept);
        }
        Run.of("= r0;j0;d0;c0;", "days(24)").due("count(6)", 24).does("days(24)").due("count(6)", 24).times(23, "undo()").due("undo()", 0)
            .due("count(4)", 24).due("undo()", STATE).due("heard(0, 0)", 24);
        Tally.sentence("9", "an ACT is a day, a change of seats, of a lesson, a thing forgotten, one told: 24 of all together");
        Run run = Run.of("= r0;j0;j0;d0;c0;c0;", "tell(1, 1)");
        for (int i = 0; i < 5; i++) run.does("change(0, 1)", "teach(0, 1)", "tell(0, 0)", "forget(0, 0)", "teach(0, 0)");
        run.due("count(6)", 24).times(23, "undo()").due("undo()", 0).due("undo()", STATE);
        // The telling and the first change are forgotten, so both stand.
        run.due("pupil(1, 0)", 2).due("pupil(0, 1)", 1).due("lesson(0)", 0).due("pupil(0, 0)", 0);
    }

    private static void actsUndoneLatestFirst() {
        Tally.sentence("9", "each can be undone, the latest first");
        Run run = Run.of("= r0;j0;j1;d0;d1;o0;w1;", "days(1)", "change(0, 1)", "teach(1, 0)", "tell(0, 1)", "forget(1, 0)", "days(1)");
        run.due("count(6)", 6).due("count(4)", 2).due("pupil(1, 0)", 0).due("heard(1, 0)", 1).due("heard(0, 0)", 2);
        run.due("undo()", 5).due("count(4)", 1).due("heard(1, 0)", 0).due("heard(0, 0)", 1).due("pupil(1, 0)", 0);
        run.due("undo()", 4).due("pupil(1, 0)", 1).due("pupil(0, 0)", 3);
        run.due("undo()", 3).due("pupil(0, 0)", 1).due("lesson(0)", 0);
        run.due("undo()", 2).due("lesson(0)", 1).due("pupil(0, 1)", 1);
        run.due("undo()", 1).due("pupil(0, 1)", 0).due("pupil(1, 1)", 1).due("count(4)", 1);
        run.due("undo()", 0).due("count(4)", 0).due("pupil(0, 0)", 0).due("heard(0, 0)", 0).due("undo()", STATE);
        Tally.sentence("9", "a DAY undone: what an old snake forgot is KNOWN again, what is HEARD most was so");
        Run.of("= r0;j0;j0;j0;j0;j0;d4;o15;", "days(1)").due("pupil(0, 0)", 30).due("undo()", 0).due("pupil(0, 0)", 15).due("heard(0, 4)", 0);
        Run old = Run.of("= r0;j0;d0;c0;").times(4, "days(24)").does("days(3)", "days(1)", "days(1)").due("heard(0, 0)", 99);
        old.due("undo()", 23).due("heard(0, 0)", 99).due("undo()", 22).due("heard(0, 0)", 99).due("undo()", 21).due("heard(0, 0)", 98);
    }

    private static void actsBehindUndone() {
        Tally.sentence("9", "how many can be undone yet, as acts come and go");
        Run run = Run.of("= r0;j0;d0;c0;").times(30, "days(1)").times(10, "undo()").due("count(6)", 14).due("count(4)", 20);
        run.times(10, "days(1)").due("count(6)", 24).does("days(1)").due("count(6)", 24).times(24, "undo()").due("count(4)", 7).due("undo()", STATE);
        run.does("days(1)").due("undo()", 0).due("count(4)", 7);
    }

    private static void days() {
        Tally.sentence("10", "n DAYS (1 to 24), an ACT each. BAD");
        AMID.ends("days(#)", 1, 9, 24, 36);
        AMID.due("days(24)", 36, "count(4)", 24, "count(6)", 24).due("days(1)", 9, "count(4)", 1, "count(6)", 2);
        LEAST.ends("days(#)", 1, 1, 24, 1);
        Tally.sentence("10", "STATE: no SCHOOL (ahead of BAD)");
        for (Scene none : new Scene[] {NOTHING, NO_SCHOOL}) none.never("days(#)", STATE).refused("days(24)", STATE).refused("days(25)", STATE);
    }

    /** On day 984, behind 41 times 24 days. */
    private static Scene late(String... more) {
        String[] steps = new String[44 + more.length];
        steps[0] = "= r7;";
        steps[1] = "= r0;j0;j0;j0;d0;d1;d2;c0;c0;";
        for (int i = 0; i < 41; i++) steps[2 + i] = "days(24)";
        System.arraycopy(more, 0, steps, 43, more.length);
        steps[43 + more.length] = "row(0, 0, -1)";
        return new Scene(steps);
    }

    private static void lastDay() {
        Tally.sentence("10", "FULL: DAY would be above 999");
        Scene at984 = late();
        at984.due("days(1)", 6, "count(4)", 985).due("days(15)", 6, "count(4)", 999, "count(6)", 24);
        at984.refused("days(16)", FULL).refused("days(17)", FULL).refused("days(24)", FULL);
        Scene at999 = late("days(15)");
        at999.refused("days(1)", FULL).refused("days(2)", FULL).refused("days(24)", FULL);
        late("days(14)").due("days(1)", 6, "count(4)", 999).refused("days(2)", FULL);
        at999.due("undo()", 23, "count(4)", 998, "days(2)", FULL, "days(1)", 6, "count(4)", 999, "days(1)", FULL);
        Tally.sentence("10", "BAD ahead of FULL");
        for (Scene late : new Scene[] {at984, at999}) late.refused("days(0)", BAD).refused("days(25)", BAD).refused("days(LOW)", BAD).refused("days(HIGH)", BAD);
        Tally.sentence("11 to 14, 18, 19, 33", "only days is FULL on the last day");
        at999.due("change(0, 1)", 1).due("teach(0, 1)", 0).due("forget(0, 0)", 6).due("image(0)", 1);
        at999.told("lesson(0)", 0).told("lesson(1)", 1).told("lesson(60)", 0).told("ahead(1, 60, -1)", 7).told("ahead(1, 60, 2)", 99).told("drawn(0, 1, 0)", 6);
        Tally.sentence("10", "DAY is 1 more, in a school that is read anew from the last day on");
        at999.due("= r0;j0;d0;c0;", 1, "count(4)", 0, "days(24)", 1);
    }

    private static void heardAtMost() {
        Tally.sentence("10", "it has HEARD the SUBJECT once more (99 at most)");
        Run run = Run.of("= r0;j0;j0;d0;c0;c0;").times(4, "days(24)").does("days(2)");
        // Who sits behind hears it a day later first.
        run.due("heard(0, 0)", 98).due("heard(1, 0)", 97).does("days(1)").due("heard(0, 0)", 99).due("heard(1, 0)", 98);
        run.does("days(1)").due("heard(0, 0)", 99).due("heard(1, 0)", 99).does("days(1)").due("heard(0, 0)", 99).due("heard(1, 0)", 99);
        run.does("teach(0, 1)", "days(1)").due("heard(0, 0)", 99).due("heard(0, 1)", 1);
        Run ahead = Run.of("= r0;j0;d0;c0;", "days(24)", "days(14)").due("ahead(0, 60, 0)", 98).does("days(1)").due("ahead(0, 60, 0)", 99);
        ahead.does("days(1)").due("ahead(0, 60, 0)", 99).due("heard(0, 0)", 40);
    }

    private static void reach() {
        Tally.sentence("10, 15", "It HEARS the LESSON of a DAY, if its SEAT is REACH or less");
        for (int reach = 0; reach <= 6; reach++) {
            Run run = Run.of("= r" + reach + ";j0;d0;c0;c0;c0;c0;c0;c0;");
            for (int p = 0; p < 6; p++) run.due("pupil(" + p + ", 3)", p <= reach ? 1 : 0);
            run.does("change(0, 5)").due("pupil(0, 3)", reach >= 5 ? 1 : 0).due("pupil(5, 3)", 1).due("days(1)", Math.min(6, reach + 1));
            for (int p = 1; p < 5; p++) run.due("heard(" + p + ", 0)", p <= reach ? 1 : 0);
            run.due("heard(5, 0)", 1).due("pupil(5, 0)", 1).due("heard(0, 0)", reach >= 5 ? 1 : 0);
        }
    }

    private static void inFront() {
        Tally.sentence("10, 15", "or if one in the SEAT next in front of it KNOWS its SUBJECT as the DAY begins");
        Run run = Run.of("= r0;j0;j0;d0;d1;c0;c0;c1;c0;c0;c0;");
        int[] hears = {1, 0, 0, 1, 0, 0};
        for (int p = 0; p < 6; p++) run.due("pupil(" + p + ", 3)", hears[p]);
        run.does("days(1)");
        for (int p = 0; p < 6; p++) run.due("heard(" + p + ", 0)", hears[p]);
        // The lesson of this day is the other one, which nobody knows.
        for (int p = 0; p < 6; p++) run.due("pupil(" + p + ", 3)", p == 0 ? 1 : 0);
        Run last = Run.of("= r0;j0;d0;c0;c0;c0;c0;c1;c0;").due("pupil(5, 3)", 1).due("pupil(3, 3)", 0).does("change(4, 5)").due("pupil(5, 3)", 0).due("pupil(4, 3)", 0);
        last.does("change(0, 4)").due("pupil(1, 3)", 1).due("pupil(4, 3)", 1).due("pupil(0, 3)", 0);
        Tally.sentence("10", "as the DAY begins: who forgets it on that day knew it then");
        Run.of("= r0;j0;j0;j0;j0;j0;d0;o31;c0;", "days(1)").due("pupil(0, 0)", 30).due("heard(1, 0)", 1).due("pupil(1, 0)", 1)
            .does("days(1)").due("pupil(0, 0)", 30).due("heard(1, 0)", 1).due("heard(0, 0)", 2);
    }

    private static void snakesHear() {
        Tally.sentence("10, 15", "a snake HEARS it in any SEAT");
        Run run = Run.of("= r0;j0;d0;c0;c0;s0;o0;c0;s0;");
        int[] hears = {1, 0, 1, 1, 0, 1};
        for (int p = 0; p < 6; p++) run.due("pupil(" + p + ", 3)", hears[p]);
        run.due("days(1)", 4);
        for (int p = 0; p < 6; p++) run.due("heard(" + p + ", 0)", hears[p]);
    }

    private static void slowOnes() {
        Tally.sentence("10", "only if it has HEARD it twice by then, or more often");
        Run.of("= r0;j0;j1;d0;w0;", "days(1)").due("pupil(0, 0)", 0).does("days(1)").due("pupil(0, 0)", 1)
            .does("forget(0, 0)", "days(1)").due("pupil(0, 0)", 1).due("heard(0, 0)", 3);
        Run.of("= r0;j0;j1;d1;w0;", "days(2)").due("pupil(0, 0)", 0).does("days(1)", "tell(0, 0)", "days(1)").due("pupil(0, 0)", 3);
        Run.of("= r0;j0;j1;d1;w1;", "days(1)").due("pupil(0, 0)", 1).does("days(1)").due("pupil(0, 0)", 3);
    }

    private static void snakesLearn() {
        Tally.sentence("10", "if it has HEARD it as often as this has NEEDS by then, and once at least");
        int[] often = {1, 1, 2, 3, 4, 5};
        for (int s = 0; s < 6; s++) {
            for (char sort : new char[] {'s', 'o'}) {
                Run run = Run.of("= r0;j0;j1;j3;j7;j15;j31;d" + s + ";c0;" + sort + "0;").due("pupil(1, 0)", 0);
                for (int day = 1; day <= 6; day++) run.does("days(1)").due("pupil(1, 0)", day >= often[s] ? 1 << s : 0);
            }
        }
        Run.of("= r0;j0;j0;j2;d2;s0;", "days(1)").due("pupil(0, 0)", 4);
    }

    private static void oldOnes() {
        Tally.sentence("10", "forgets then (whether it learned it or not), if it KNOWS more than four, the least SUBJECT that it KNOWS");
        int[][] cases = {{7, 3, 15, 15}, {15, 3, 15, 15}, {15, 4, 30, 30}, {31, 4, 30, 30}, {30, 0, 30, 30}, {63, 5, 62, 60}, {62, 1, 60, 60},
            {47, 0, 46, 46}, {46, 0, 46, 46}, {60, 5, 60, 60}, {57, 1, 58, 58}};
        for (int[] c : cases) {
            Run run = Run.of("= r0;j0;j0;j0;j0;j0;j0;d" + c[1] + ";o" + c[0] + ";");
            run.does("days(1)").due("pupil(0, 0)", c[2]).does("days(1)").due("pupil(0, 0)", c[3]);
        }
        Run.of("= r0;j0;j0;j0;j0;j0;j31;d5;o31;", "days(1)").due("pupil(0, 0)", 30).does("days(3)").due("pupil(0, 0)", 30).does("days(1)").due("pupil(0, 0)", 60);
        Run.of("= r0;j0;j0;j0;j0;j0;d0;s31;o31;", "days(1)").due("pupil(0, 0)", 31).due("pupil(1, 0)", 30);
        Run.of("= r0;j0;j0;j0;j0;j0;d0;o15;").due("tell(0, 4)", 31).due("pupil(0, 2)", 5).due("days(1)", 4).due("pupil(0, 0)", 30);
    }

    private static void quickOnes() {
        Tally.sentence("10", "each SUBJECT of a greater number than the LESSON's, rising, that NEEDS any, all of which it KNOWS by then");
        String[] texts = {"r0;j0;j1;j2;j4;j8;j16;d0;q0;", "r0;j0;j1;j3;j7;j15;j31;d0;q0;", "r0;j0;j0;j1;d1;q0;", "r0;j0;j0;j1;d1;q1;", "r0;j0;j1;j0;d1;q0;",
            "r0;j0;j1;j0;j4;d1;q4;", "r0;j0;j1;j0;d2;q1;", "r0;j0;j0;j0;j0;j0;j0;d5;q0;", "r0;j0;j0;j0;j0;j0;j0;d0;q0;", "r0;j0;j1;d1;q0;",
            "r0;j0;j1;j3;d0;q1;", "r0;j0;j1;j3;d0;q4;", "r0;j0;j1;j2;d1;q1;"};
        int[] knows = {63, 63, 2, 7, 0, 12, 5, 32, 1, 0, 7, 7, 7};
        for (int t = 0; t < texts.length; t++) Run.of("= " + texts[t], "days(1)").due("pupil(0, 0)", knows[t]).due("count(5)", Integer.bitCount(knows[t]));
        Tally.sentence("10", "for each PUPIL that HEARS: a quick one that does not, learns nothing");
        Run.of("= r0;j0;j1;d0;c0;q1;", "days(1)").due("pupil(1, 0)", 1).due("heard(1, 0)", 0);
    }

    private static void atOnce() {
        Tally.sentence("10", "all at once, by what is KNOWN as it begins");
        Run run = Run.of("= r0;j0;d0;c0;c0;c0;c0;c0;c0;");
        for (int day = 1; day <= 7; day++) run.due("days(1)", Math.min(6, day));
        for (int p = 0; p < 6; p++) run.due("heard(" + p + ", 0)", 7 - p);
        Run.of("= r0;j0;d0;c0;c0;c0;", "change(0, 2)").due("days(1)", 1).due("pupil(2, 0)", 1).due("days(1)", 2).due("pupil(1, 0)", 1).due("days(1)", 3);
    }

    private static void changes() {
        Tally.sentence("11", "BAD: alike, too");
        AMID.ends("change(#, 1)", 0, 1, 5, 1).ends("change(1, #)", 0, 0, 5, 5).ends("change(0, #)", 1, 1, 5, 5).ends("change(5, #)", 0, 0, 4, 4);
        for (int p = -1; p <= 6; p++) AMID.refused("change(" + p + ", " + p + ")", BAD);
        AMID.refused("change(LOW, HIGH)", BAD).refused("change(HIGH, HIGH)", BAD);
        LEAST.never("change(#, 0)", BAD).never("change(0, #)", BAD);
        Tally.sentence("11", "Two change their SEATS: the SEAT of the first one then");
        AMID.due("change(0, 5)", 5, "pupil(5, 1)", 0, "pupil(1, 1)", 1, "pupil(4, 1)", 4, "count(6)", 2, "change(0, 4)", 4, "pupil(4, 1)", 5, "change(4, 0)", 4);
    }

    private static void teaches() {
        Tally.sentence("12", "SUBJECT of a LESSON: what it was. BAD");
        AMID.ends("teach(#, 0)", 0, 0, 7, 1).ends("teach(0, #)", 0, 0, 5, 0);
        AMID.refused("teach(8, 6)", BAD).refused("teach(LOW, HIGH)", BAD);
        LEAST.ends("teach(#, 0)", 0, 0, 0, 0).ends("teach(0, #)", 0, 0, 0, 0);
        AMID.due("teach(7, 5)", 1, "lesson(7)", 5, "lesson(15)", 5, "lesson(6)", 0, "count(6)", 2, "teach(7, 0)", 5, "undo()", 2, "lesson(7)", 5);
        AMID.due("teach(7, 1)", 1, "count(6)", 2, "undo()", 1, "lesson(7)", 1);
    }

    private static void forgets() {
        Tally.sentence("13", "what it KNOWS then (bits). BAD; STATE: it does not KNOW it");
        AMID.ends("forget(#, 0)", 0, 32, 5, 32).ends("forget(0, #)", 0, 32, 5, 1);
        AMID.refused("forget(0, 1)", STATE).refused("forget(0, 4)", STATE).refused("forget(1, 0)", STATE).refused("forget(4, 5)", STATE);
        LEAST.ends("forget(#, 0)", 0, STATE, 0, STATE).ends("forget(0, #)", 0, STATE, 0, STATE).refused("forget(0, 0)", STATE);
        Tally.sentence("13", "BAD ahead of STATE");
        AMID.refused("forget(1, 6)", BAD).refused("forget(1, -1)", BAD).refused("forget(6, 0)", BAD);
        AMID.due("forget(0, 5)", 1, "forget(0, 0)", 0, "forget(0, 0)", STATE, "count(6)", 3);
        Run.of("= r0;j0;d0;c0;", "days(2)").due("forget(0, 0)", 0).due("heard(0, 0)", 2);
    }

    private static void tells() {
        Tally.sentence("14", "what it KNOWS then (bits). BAD; STATE: it KNOWS it");
        AMID.ends("tell(#, 1)", 0, 35, 5, 35).ends("tell(1, #)", 0, 1, 5, 32);
        AMID.refused("tell(0, 0)", STATE).refused("tell(0, 5)", STATE).refused("tell(5, 0)", STATE).refused("tell(2, 3)", STATE);
        LEAST.ends("tell(#, 0)", 0, 1, 0, 1).ends("tell(0, #)", 0, 1, 0, 1).and("tell(0, 0)").refused("tell(0, 0)", STATE);
        Tally.sentence("14", "BAD ahead of STATE");
        AMID.refused("tell(0, 6)", BAD).refused("tell(0, -1)", BAD).refused("tell(6, 0)", BAD);
        Tally.sentence("14", "It is told a SUBJECT, whether it can GRASP it or not, and has not HEARD it");
        Run.of("= r0;j0;j1;d0;c0;w0;").due("tell(0, 1)", 2).due("tell(1, 1)", 2).due("heard(0, 1)", 0).due("count(5)", 2).due("tell(0, 0)", 3);
    }

    private static void pupils() {
        Tally.sentence("15", "BAD");
        AMID.ends("pupil(#, 0)", 0, 33, 5, 33).ends("pupil(0, #)", 0, 33, 4, 63).refused("pupil(6, 5)", BAD);
        LEAST.ends("pupil(#, 4)", 0, 1, 0, 1).ends("pupil(0, #)", 0, 0, 4, 1);
        Tally.sentence("15", "4 SUBJECTS that it can GRASP (bits), by all that it NEEDS");
        Run run = Run.of("= r0;j0;j1;j3;j7;j15;j31;d0;c0;c31;c30;c63;c1;c32;");
        int[] grasps = {1, 63, 1, 63, 3, 1}, forms = {0, 5, 4, 6, 1, 1};
        for (int p = 0; p < 6; p++) run.due("pupil(" + p + ", 4)", grasps[p]).due("pupil(" + p + ", 2)", forms[p]);
        for (int what = 0; what <= 4; what++) AMID.told("pupil(5, " + what + ")", new int[] {33, 5, 2, 1, 63}[what]);
    }

    private static void heardAndSubjects() {
        Tally.sentence("16", "How often it has HEARD a SUBJECT. BAD");
        AMID.and("days(1)").ends("heard(#, 0)", 0, 1, 5, 1).ends("heard(0, #)", 0, 1, 5, 0).told("heard(5, 0)", 1);
        LEAST.ends("heard(#, 0)", 0, 0, 0, 0).ends("heard(0, #)", 0, 0, 0, 0);
        Tally.sentence("17", "NEEDS of a SUBJECT (bits). BAD");
        Scene needs = Scene.amid("r0;j0;j1;j3;j7;j15;j31;d0;c0;", "days(1)");
        needs.ends("subject(#)", 0, 0, 5, 31).told("subject(4)", 15);
        LEAST.ends("subject(#)", 0, 0, 0, 0);
    }

    private static void lessons() {
        Tally.sentence("18", "SUBJECT of the DAY that is n on (0 to 60). BAD");
        AMID.ends("lesson(#)", 0, 0, 60, 4).told("lesson(60)", 4);
        LEAST.ends("lesson(#)", 0, 0, 60, 0);
        Tally.sentence("18", "that of a DAY is that of the DAY by how many there are left over");
        StringBuilder text = new StringBuilder("r0;j0;j0;j0;j0;j0;j0;");
        int[] taught = {5, 3, 1, 0, 2, 4, 5, 1};
        for (int lessons = 1; lessons <= 8; lessons++) {
            text.append('d').append(taught[lessons - 1]).append(';');
            for (int day : new int[] {0, 1, 7, 8, 23}) {
                Run run = Run.of("= " + text + "c0;");
                if (day > 0) run.does("days(" + day + ")");
                for (int n : new int[] {0, 1, 2, 6, 7, 8, 9, 15, 16, 59, 60}) run.due("lesson(" + n + ")", taught[(day + n) % lessons]);
            }
        }
        Tally.sentence("18", "STATE: no SCHOOL (ahead of BAD)");
        for (Scene none : new Scene[] {NOTHING, NO_SCHOOL}) none.never("lesson(#)", STATE).refused("lesson(60)", STATE).refused("lesson(61)", STATE);
    }

    private static void withoutSchool() {
        Tally.sentence("11 to 17", "BAD: there is no such thing, without a school");
        for (Scene none : new Scene[] {NOTHING, NO_SCHOOL}) {
            for (String call : new String[] {"change(#, 0)", "change(0, #)", "teach(#, 0)", "teach(0, #)", "forget(#, 0)", "forget(0, #)", "tell(#, 0)",
                "tell(0, #)", "pupil(#, 0)", "pupil(0, #)", "heard(#, 0)", "heard(0, #)", "subject(#)"}) {
                none.never(call, BAD);
            }
        }
    }
}
