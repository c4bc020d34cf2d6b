/** The edges of what is FORETOLD, and of images: promises 19 to 29 and 32 to 35 (30 and 31 are looked at with the rows). */
public final class ForetoldEdgesTest {
    private static final int NONE = Run.NONE, BAD = Run.BAD, STATE = Run.STATE;

    /** The most of all, six subjects that need nothing, all within reach, so that each day is learned by all. */
    private static final String MOST = "r6;j0;j0;j0;j0;j0;j0;d0;d1;d2;d3;d4;d5;d0;d1;c33;c0;c0;c0;c0;c33;";
    private static final Scene AMID = Scene.amid(MOST, "tell(2, 3)");
    private static final Scene LEAST = Scene.amid("r0;j0;d0;c0;", "tell(0, 0)", "forget(0, 0)");
    private static final Scene NOTHING = new Scene();
    private static final Scene NO_SCHOOL = new Scene("= r0,", "row(0, 0, 3)", "set(0, 0, 1)", "row(7, 2, 12)", "+ r0;j0;", "row(1, 0, -1)");
    private static final String CHAIN = "= r0;j0;j1;j3;j7;j15;j31;d0;c0;c32;c31;s63;c5;";

    public static void main(String[] args) {
        ahead();
        when();
        all();
        follows();
        lacks();
        shortest();
        seating();
        seatingFirstOfSeveral();
        table();
        tableFirstOfSeveral();
        questions();
        top();
        fellows();
        thoughtWithinTheEnds();
        thoughtFractions();
        drawnWithinTheEnds();
        drawnBySeeds();
        images();
        restores();
        withoutSchool();
        Tally.end("ForetoldEdgesTest");
    }

    private static void ahead() {
        Tally.sentence("19", "AHEAD by n DAYS (0 to 60) of a PUPIL; subject = -1, 0 on. BAD");
        AMID.ends("ahead(#, 1, -1)", 0, 33, 5, 33).ends("ahead(1, #, -1)", 0, 0, 60, 63).ends("ahead(0, 1, #)", -1, 33, 5, 0);
        LEAST.ends("ahead(#, 1, -1)", 0, 1, 0, 1).ends("ahead(0, #, 0)", 0, 0, 60, 60).ends("ahead(0, 60, #)", -1, 1, 0, 60);
        // Subject 0 has two of eight lessons, and the first of the week that is begun.
        AMID.told("ahead(0, 60, 0)", 15).told("ahead(0, 0, 0)", 0).told("ahead(5, 60, 5)", 7).told("ahead(1, 5, -1)", 31).told("ahead(1, 6, -1)", 63);
        AMID.refused("ahead(6, 61, 6)", BAD).refused("ahead(HIGH, LOW, HIGH)", BAD);
    }

    private static void when() {
        Tally.sentence("20", "behind how many DAYS (0 to 60) first; NONE. BAD");
        AMID.ends("when(#, 1)", 0, 2, 5, 2).ends("when(1, #)", 0, 1, 5, 6).told("when(0, 0)", 0).told("when(0, 5)", 0);
        LEAST.ends("when(#, 0)", 0, 1, 0, 1).ends("when(0, #)", 0, 1, 0, 1);
        // Each slow one learns 0 and then 1 twelve days behind the one in front of it.
        Scene slow = Scene.amid("r0;j0;j1;d1;d1;d1;d1;d0;d1;w0;w0;w0;w0;w0;w0;", "tell(5, 1)", "forget(5, 1)");
        slow.told("when(0, 1)", 12).told("when(3, 1)", 48).told("when(4, 1)", 60).told("when(5, 1)", NONE);
        Scene slower = Scene.amid("r0;j0;j1;d1;d1;d1;d1;d1;d0;w0;w0;w0;w0;w0;", "tell(4, 1)", "forget(4, 1)");
        slower.told("when(3, 1)", 49).told("when(4, 1)", NONE).due("days(1)", 0, "when(4, 1)", 60, "days(24)", 4, "when(4, 1)", 36);
        Tally.sentence("20", "first: an old snake KNOWS it for a while");
        Run.of("= r0;j0;j0;j0;j0;j0;d0;d4;o14;").due("when(0, 0)", 1).due("when(0, 1)", 0).due("ahead(0, 2, -1)", 30).due("when(0, 4)", 2);
    }

    private static void all() {
        Tally.sentence("21", "that all do (what = 0), that any does (1). BAD");
        AMID.ends("all(#)", 0, 0, 1, 41).told("all(0)", 0).told("all(1)", 41);
        LEAST.ends("all(#)", 0, 0, 1, 0);
        Run.of("= r0;j0;j0;j0;j0;j0;j0;d0;c63;c63;c63;c63;c63;c63;").due("all(0)", 63).due("all(1)", 63).does("forget(5, 5)").due("all(0)", 31).due("all(1)", 63);
        Run.of("= r0;j0;j0;j0;d0;c5;").due("all(0)", 5).due("all(1)", 5).does("= r0;j0;j0;j0;d0;c5;c2;").due("all(0)", 0).due("all(1)", 7);
    }

    private static void follows() {
        Tally.sentence("22", "all that it could come to KNOW by GRASP alone from what it KNOWS. BAD");
        AMID.ends("follows(#)", 0, 63, 5, 63).told("follows(1)", 63);
        LEAST.ends("follows(#)", 0, 1, 0, 1);
        Run run = Run.of(CHAIN);
        for (int p = 0; p < 5; p++) run.due("follows(" + p + ")", 63);
        Run.of("= r0;j0;j1;d0;c0;c2;").due("follows(0)", 3).due("follows(1)", 3);
    }

    private static void lacks() {
        Tally.sentence("23", "what it NEEDS, and what that NEEDS, and so on, and the SUBJECT itself, less what it KNOWS. BAD");
        AMID.ends("lacks(#, 1)", 0, 2, 5, 2).ends("lacks(1, #)", 0, 1, 5, 32).told("lacks(0, 0)", 0).refused("lacks(6, 6)", BAD);
        LEAST.ends("lacks(#, 0)", 0, 1, 0, 1).ends("lacks(0, #)", 0, 1, 0, 1);
        Run.of(CHAIN).due("lacks(0, 5)", 63).due("lacks(1, 5)", 31).due("lacks(2, 5)", 32).due("lacks(3, 5)", 0).due("lacks(4, 5)", 58).due("lacks(0, 0)", 1).due("lacks(4, 0)", 0);
        Run.of("= r0;j0;j1;j2;j4;j8;j16;d0;c0;c16;").due("lacks(0, 5)", 63).due("lacks(1, 5)", 47).due("lacks(1, 4)", 15);
    }

    private static void shortest() {
        Tally.sentence("24", "how many (k = -1), the k-th (0 on; NONE: not so many). BAD: k below -1, too");
        AMID.ends("shortest(#, 1, -1)", 0, 1, 5, 1).ends("shortest(1, #, -1)", 0, 1, 5, 1).ends("shortest(1, #, 0)", 0, 0, 5, 5);
        LEAST.ends("shortest(#, 0, -1)", 0, 1, 0, 1).ends("shortest(0, #, 0)", 0, 0, 0, 0);
        AMID.told("shortest(1, 5, 0)", 5).told("shortest(1, 5, 1)", NONE).told("shortest(1, 5, HIGH)", NONE).told("shortest(0, 5, -1)", 0).told("shortest(0, 5, 0)", NONE);
        AMID.refused("shortest(1, 5, -2)", BAD).refused("shortest(1, 5, LOW)", BAD).refused("shortest(0, 5, -2)", BAD);
        Tally.sentence("24", "BAD ahead of NONE");
        AMID.refused("shortest(6, 0, HIGH)", BAD).refused("shortest(0, 6, HIGH)", BAD).refused("shortest(-1, 0, 9)", BAD).refused("shortest(0, -1, 9)", BAD);
        Tally.sentence("24", "the shortest row of SUBJECTS, none and the most of them");
        Run run = Run.of(CHAIN).due("shortest(0, 5, -1)", 6).due("shortest(3, 5, -1)", 0).due("shortest(1, 5, -1)", 0).due("shortest(2, 5, -1)", 1).due("shortest(2, 5, 0)", 5);
        for (int k = 0; k < 8; k++) run.due("shortest(0, 5, " + k + ")", k < 6 ? k : NONE).due("shortest(3, 5, " + k + ")", NONE);
        run.due("shortest(4, 5, -1)", 4).due("shortest(4, 5, 0)", 1).due("shortest(4, 5, 3)", 5).due("shortest(4, 5, 4)", NONE);
        Tally.sentence("24", "what only a known subject NEEDS is not learned");
        Run.of("= r0;j0;j1;j2;j0;j12;d0;c4;").due("shortest(0, 4, -1)", 2).due("shortest(0, 4, 0)", 3).due("shortest(0, 4, 1)", 4).due("shortest(0, 4, 2)", NONE);
    }

    private static void seating() {
        Tally.sentence("25", "SEATING for n DAYS (1 to 12). BAD: no such SEAT, seat below -1, too");
        AMID.ends("seating(#, -1)", 1, 9, 12, 36).ends("seating(#, 5)", 1, 5, 12, 5).ends("seating(1, #)", -1, 9, 5, 5);
        LEAST.ends("seating(#, -1)", 1, 1, 12, 1).ends("seating(1, #)", -1, 1, 0, 0);
        AMID.told("seating(2, -1)", 15).told("seating(2, 0)", 0).refused("seating(0, -2)", BAD).refused("seating(13, 6)", BAD);
        Tally.sentence("25", "STATE: no SCHOOL (ahead of BAD)");
        for (Scene none : new Scene[] {NOTHING, NO_SCHOOL}) none.never("seating(#, 0)", STATE).never("seating(1, #)", STATE).refused("seating(13, 9)", STATE);
    }

    private static void seatingFirstOfSeveral() {
        Tally.sentence("25", "of several the first (by numbers, SEAT by SEAT)");
        // The snake hears anywhere; pupil 2 learns its lesson in front alone, pupil 1 behind it alone.
        Run last = Run.of("= r0;j0;j0;j1;d1;d2;s0;c0;c3;").due("seating(2, -1)", 6).due("seating(2, 0)", 2).due("seating(2, 1)", 1).due("seating(2, 2)", 0);
        last.due("pupil(0, 1)", 0).does("change(0, 1)").due("seating(2, 0)", 2).due("seating(2, 2)", 0);
        Run same = Run.of("= r6;j0;d0;c0;c0;c0;c0;c0;c0;", "change(0, 5)", "change(1, 4)");
        for (int seat = 0; seat < 6; seat++) same.due("seating(12, " + seat + ")", seat);
        Tally.sentence("25", "of several the first, if nothing is KNOWN by any of them");
        Run none = Run.of("= r6;j0;j1;d1;c0;w0;c0;", "change(0, 2)").due("seating(12, -1)", 0);
        for (int seat = 0; seat < 3; seat++) none.due("seating(1, " + seat + ")", seat).due("seating(12, " + seat + ")", seat);
        Tally.sentence("25", "taken now: how often each has HEARD a SUBJECT by now, whatever was tried for others");
        Run.of("= r6;j0;d0;w0;w0;w0;").due("seating(1, -1)", 0).due("seating(1, 2)", 2).due("seating(2, -1)", 3).due("seating(1, -1)", 0);
        Run slow = Run.of("= r0;j0;d0;w0;w0;w0;", "change(0, 2)", "days(1)").due("heard(2, 0)", 1).due("seating(1, -1)", 1);
        slow.due("seating(1, 0)", 2).due("seating(1, 1)", 0).due("seating(1, 2)", 1).due("heard(0, 0)", 0).due("heard(2, 0)", 1);
        Tally.sentence("25", "behind them, of this DAY on");
        Run.of("= r0;j0;j0;d0;d1;c0;c1;", "days(1)").due("seating(1, -1)", 3).due("seating(1, 0)", 0).due("seating(2, -1)", 3).due("seating(3, -1)", 4);
    }

    private static void table() {
        Tally.sentence("26", "TABLE for n DAYS (1 to 30): which (what = 0), how much (1); NONE. BAD");
        AMID.ends("table(#, 0)", 1, 1, 30, NONE).ends("table(1, #)", 0, 1, 1, 11);
        AMID.told("table(30, 0)", NONE).told("table(30, 1)", NONE).refused("table(0, 2)", BAD).refused("table(31, -1)", BAD);
        Tally.sentence("26", "the two LESSONS: there is but one");
        LEAST.ends("table(#, 0)", 1, NONE, 30, NONE).ends("table(30, #)", 0, NONE, 1, NONE);
        Tally.sentence("26", "let most be KNOWN behind them, up to the last of 30 DAYS");
        // One learns it on days 8, 16, 24, or, if it comes first in the week, on days 1, 9, 17, 25.
        Scene week = Scene.amid("r0;j0;j0;d1;d1;d1;d1;d1;d1;d1;d0;c2;c2;c2;c2;c2;c2;", "tell(5, 0)", "forget(5, 0)");
        week.ends("table(#, 0)", 1, 7, 30, 7).ends("table(#, 1)", 1, 7, 30, 10).told("table(23, 0)", 7).told("table(24, 0)", NONE).told("table(25, 0)", 7).told("table(25, 1)", 10);
        Tally.sentence("26", "STATE: no SCHOOL (ahead of BAD)");
        for (Scene none : new Scene[] {NOTHING, NO_SCHOOL}) none.never("table(#, 0)", STATE).never("table(1, #)", STATE).refused("table(31, 2)", STATE);
    }

    private static void tableFirstOfSeveral() {
        Tally.sentence("26", "10 the one, and the other one, of several the first");
        Run.of("= r0;j0;j1;j0;d2;d2;d2;d2;d2;d2;d1;d0;c4;", "days(6)").due("table(2, 0)", 67).due("table(2, 1)", 3).due("table(1, 0)", 67).due("table(1, 1)", 2);
        Run.of("= r0;j0;j1;d1;d0;d0;c0;").due("table(2, 0)", 1).due("table(2, 1)", 2).due("table(1, 0)", 1);
        Tally.sentence("26", "more than as it is");
        Run.of("= r0;j0;j0;d0;d1;c0;").due("table(1, 0)", NONE).due("table(2, 0)", NONE).does("= r0;j0;j1;d0;d1;d1;c0;").due("table(2, 1)", NONE);
    }

    private static void questions() {
        Tally.sentence("27", "how many (what = 0), which (1). BAD");
        AMID.ends("questions(#)", 0, 2, 1, 9).told("questions(0)", 2).told("questions(1)", 9);
        LEAST.ends("questions(#)", 0, 0, 1, 0);
        Tally.sentence("27", "the fewest SUBJECTS, none and the most; of several the least");
        Run.of("= r0;j0;j0;j0;j0;j0;j0;d0;c21;c21;c21;c21;c21;c21;").due("questions(0)", 0).due("questions(1)", 0);
        Run.of("= r0;j0;j0;j0;j0;j0;j0;d0;c0;c1;c2;c4;c8;c16;").due("questions(0)", 5).due("questions(1)", 31);
        Run.of("= r0;j0;j0;j0;j0;j0;j0;d0;c0;c2;c4;c8;c16;c32;").due("questions(0)", 5).due("questions(1)", 62);
        Run.of("= r0;j0;j0;j0;j0;j0;j0;d0;c0;c63;").due("questions(0)", 1).due("questions(1)", 1).does("forget(1, 0)").due("questions(1)", 2);
        Run.of("= r0;j0;j0;j0;j0;d0;c0;c7;c11;c13;").due("questions(0)", 2).due("questions(1)", 6);
        Tally.sentence("27", "STATE: no SCHOOL (ahead of BAD)");
        for (Scene none : new Scene[] {NOTHING, NO_SCHOOL}) none.never("questions(#)", STATE).refused("questions(2)", STATE);
    }

    private static void top() {
        Tally.sentence("28", "which (what = 0), the FORM (1), of several the first. BAD");
        AMID.ends("top(#)", 0, 0, 1, 2).told("top(0)", 0).told("top(1)", 2);
        LEAST.ends("top(#)", 0, 0, 1, 0);
        Run.of("= r0;j0;j0;j0;j0;j0;j0;d0;c0;c0;c31;c0;c63;c63;").due("top(0)", 4).due("top(1)", 6).does("forget(4, 0)").due("top(0)", 5).does("forget(5, 5)").due("top(0)", 2).due("top(1)", 5);
        for (int p = 0; p < 6; p++) Run.of("= r0;j0;d0;c0;c0;c0;c0;c0;c0;", "tell(" + p + ", 0)").due("top(0)", p).due("top(1)", 1);
        Tally.sentence("28", "STATE: no SCHOOL (ahead of BAD)");
        for (Scene none : new Scene[] {NOTHING, NO_SCHOOL}) none.never("top(#)", STATE).refused("top(2)", STATE);
    }

    private static void fellows() {
        Tally.sentence("29", "others (bits) who KNOW just the same. BAD");
        AMID.ends("fellows(#)", 0, 32, 5, 1).told("fellows(1)", 24).told("fellows(2)", 0);
        LEAST.ends("fellows(#)", 0, 0, 0, 0);
        Run run = Run.of("= r0;j0;j0;d0;c3;q3;w3;s3;o3;c3;");
        for (int p = 0; p < 6; p++) run.due("fellows(" + p + ")", 63 & ~(1 << p));
    }

    private static void thoughtWithinTheEnds() {
        Tally.sentence("32", "n DAYS (0 to 8), p of 10 (0 to 10), above (what = 0), below (1). BAD");
        AMID.ends("thought(#, 0, 1, 5, 0)", 0, 1, 5, 1).ends("thought(1, #, 6, 5, 1)", 0, 2, 5, 2).ends("thought(1, 0, #, 5, 1)", 0, 1, 8, 4);
        AMID.ends("thought(1, 0, 1, #, 0)", 0, 1, 10, 0).ends("thought(1, 0, 0, #, 1)", 0, 1, 10, 1).ends("thought(1, 0, 1, 5, #)", 0, 1, 1, 2);
        LEAST.ends("thought(#, 0, 8, 0, 0)", 0, 1, 0, 1).ends("thought(0, #, 8, 10, 0)", 0, 0, 0, 0);
        AMID.told("thought(1, 0, 8, 5, 0)", 3).told("thought(1, 0, 8, 5, 1)", 4).refused("thought(6, 6, 9, 11, 2)", BAD).refused("thought(0, 0, 0, 11, 0)", BAD);
    }

    private static void thoughtFractions() {
        Tally.sentence("32", "a fraction in lowest terms, the greatest");
        Run one = Run.of("= r0;j0;d0;c0;").due("thought(0, 0, 8, 9, 0)", 56953279).due("thought(0, 0, 8, 9, 1)", 100000000);
        one.due("thought(0, 0, 8, 1, 0)", 99999999).due("thought(0, 0, 8, 1, 1)", 100000000).due("thought(0, 0, 8, 5, 0)", 255).due("thought(0, 0, 8, 5, 1)", 256);
        one.due("thought(0, 0, 1, 4, 0)", 3).due("thought(0, 0, 1, 4, 1)", 5).due("thought(0, 0, 1, 2, 0)", 4).due("thought(0, 0, 1, 3, 1)", 10);
        Tally.sentence("32", "0 is 0 by 1, and what is sure is 1 by 1");
        one.due("thought(0, 0, 8, 10, 0)", 0).due("thought(0, 0, 8, 10, 1)", 1).due("thought(0, 0, 0, 3, 0)", 0).due("thought(0, 0, 0, 3, 1)", 1);
        one.due("thought(0, 0, 8, 0, 0)", 1).due("thought(0, 0, 8, 0, 1)", 1).does("tell(0, 0)").due("thought(0, 0, 0, 10, 0)", 1).due("thought(0, 0, 8, 10, 0)", 1).due("thought(0, 0, 8, 7, 1)", 1);
        Tally.sentence("32", "nothing is HEARD by anybody (DAY is 1 more all the same)");
        Run two = Run.of("= r0;j0;j0;d0;d1;c0;c0;w0;").due("thought(0, 1, 2, 2, 0)", 4).due("thought(0, 1, 2, 2, 1)", 5).due("thought(0, 1, 1, 0, 1)", 1).due("thought(0, 1, 1, 0, 0)", 0);
        // Who sits behind learns 0 on the third day, if the one in front has heard it on the first.
        two.due("thought(1, 0, 3, 5, 0)", 1).due("thought(1, 0, 3, 5, 1)", 4);
    }

    private static void drawnWithinTheEnds() {
        Tally.sentence("33", "YEARS of n DAYS (0 to 60) by a SEED (1 to 999999). BAD");
        LEAST.ends("drawn(#, 1, 0)", 0, 0, 60, 1).ends("drawn(1, #, 0)", 1, 1, 999999, 1).ends("drawn(1, 1, #)", 0, 1, 1, 1).ends("drawn(0, #, 0)", 1, 0, 999999, 0);
        // The draws leave lessons of 0 and 3 alone; the answers behind 60 days were worked out apart from both programs.
        AMID.ends("drawn(#, 1, 1)", 0, 0, 60, 43).ends("drawn(0, 999999, #)", 0, 5, 1, 0).told("drawn(60, 1, 0)", 34).told("drawn(0, 1, 0)", 5);
        AMID.refused("drawn(61, 0, 2)", BAD).refused("drawn(-1, 1000000, -1)", BAD);
        Tally.sentence("33", "STATE: no SCHOOL (ahead of BAD)");
        for (Scene none : new Scene[] {NOTHING, NO_SCHOOL}) none.never("drawn(#, 1, 0)", STATE).never("drawn(0, #, 0)", STATE).never("drawn(0, 1, #)", STATE).refused("drawn(61, 0, 2)", STATE);
    }

    private static void drawnBySeeds() {
        Tally.sentence("33", "X becomes the rest of (X times 16807) by 2147483647");
        // 999999 gives 16806983193, that leaves 1774597664: 2 by 3, 0 by 4, even: pupil 0 forgets 0, and learns 1 in front.
        Run.of("= r0;j0;j0;d1;c1;c1;").due("drawn(1, 999999, 0)", 2).due("drawn(1, 999999, 1)", 0).due("count(5)", 2).due("pupil(0, 0)", 1);
        // 12 gives 201684, by 12 without a rest: the lesson becomes 0, pupil 0 forgets 0, and learns it again on that day.
        Run.of("= r0;j0;j0;d1;c1;c1;").due("drawn(1, 12, 0)", 2).due("drawn(1, 12, 1)", 1).due("lesson(0)", 1);
        // 1 gives 16807, then 282475249, that leaves 1 by 3 and 1 by 4: two days alone.
        Run.of("= r0;j0;j0;d0;d1;c0;").due("drawn(1, 1, 1)", 1).due("drawn(2, 1, 1)", 3);
        Tally.sentence("33", "the rest of X by how many there are, if there is but one");
        // 4 gives 67228, 1 by 3, 0 by 4: the one pupil forgets 0; 8 gives 134456, 2 by 3, 0 by 4: pupil 2 forgets the one subject.
        Run.of("= r0;j0;j0;d1;c1;").due("drawn(1, 4, 0)", 1).due("drawn(1, 4, 1)", 2);
        Run.of("= r0;j0;d0;c0;c0;c1;").due("drawn(1, 8, 0)", 1).due("drawn(1, 8, 1)", 0);
        Tally.sentence("33", "and it KNOWS that: what it does not KNOW it cannot forget");
        // 4 gives 67228, 1 by 3, 0 by 4, 0 by 2: pupil 0 does not know 0.
        Run.of("= r0;j0;j0;d1;c0;c1;").due("drawn(1, 4, 0)", 2).due("drawn(1, 4, 1)", 0);
    }

    private static void images() {
        Tally.sentence("34", "An IMAGE (0, 1) is kept of the SCHOOL: 1. BAD");
        AMID.ends("image(#)", 0, 1, 1, 1);
        Tally.sentence("34", "STATE: no SCHOOL, behind BAD");
        for (Scene none : new Scene[] {NOTHING, NO_SCHOOL}) {
            none.refused("image(0)", STATE).refused("image(1)", STATE).refused("image(2)", BAD).refused("image(-1)", BAD).refused("image(LOW)", BAD).refused("image(HIGH)", BAD);
        }
        AMID.due("image(0)", 1, "count(6)", 1, "status()", 4, "count(7)", 18, "undo()", 0, "pupil(2, 0)", 0, "restore(0)", 1, "pupil(2, 0)", 8);
        Tally.sentence("34", "an IMAGE in place of the one that was kept");
        Run.of("= r0;j0;d0;c0;", "image(0)", "days(3)", "image(0)", "days(1)").due("restore(0)", 1).due("count(4)", 3).due("restore(1)", STATE).due("count(4)", 3);
    }

    private static void restores() {
        Tally.sentence("35", "BAD; STATE: none was kept");
        AMID.ends("restore(#)", 0, 1, 1, 1);
        for (Scene none : new Scene[] {NOTHING, NO_SCHOOL}) {
            none.refused("restore(0)", STATE).refused("restore(1)", STATE).refused("restore(2)", BAD).refused("restore(-1)", BAD).refused("restore(LOW)", BAD).refused("restore(HIGH)", BAD);
        }
        Scene none = new Scene("= r0;j0;d0;c0;", "days(2)", "row(0, 0, -1)");
        none.refused("restore(0)", STATE).refused("restore(1)", STATE);
        none.and("image(0)").refused("restore(1)", STATE).due("restore(0)", 1, "count(6)", 0);
        none.and("image(1)").refused("restore(0)", STATE).due("restore(1)", 1, "count(4)", 2);
        Tally.sentence("35", "The SCHOOL is as an IMAGE kept it (no ACT can be undone then), and nothing else is another");
        AMID.due("restore(0)", 1, "count(1)", 1, "count(2)", 1, "count(3)", 1, "count(4)", 1, "count(6)", 0, "kind(0)", 4, "heard(0, 0)", 1, "undo()", STATE,
            "count(0)", 5, "count(7)", 18, "fault()", 2, "status()", 4, "trace(0)", 11, "trace(3)", 20);
        Run run = Run.of("= r2;j0;j1;d1;d0;c0;w1;s0;", "days(3)", "change(0, 2)", "teach(0, 0)", "image(1)", "= r0;j0;d0;o1;", "days(1)");
        for (int again = 0; again < 2; again++) {
            run.due("restore(1)", 1).due("count(4)", 3).due("lesson(0)", 0).due("lesson(1)", 0).due("subject(1)", 1).due("kind(1)", 3).due("pupil(0, 1)", 2);
            run.due("heard(2, 1)", 2).due("heard(0, 0)", 1).due("pupil(0, 3)", 1).due("count(6)", 0).due("undo()", STATE).does("days(24)", "change(1, 2)", "teach(1, 1)", "forget(0, 0)");
        }
    }

    private static void withoutSchool() {
        Tally.sentence("19 to 33", "BAD: there is no such thing, without a school");
        for (Scene none : new Scene[] {NOTHING, NO_SCHOOL}) {
            for (String call : new String[] {"ahead(#, 0, -1)", "ahead(0, #, -1)", "ahead(0, 0, #)", "when(#, 0)", "when(0, #)", "follows(#)", "lacks(#, 0)", "lacks(0, #)",
                "shortest(#, 0, -1)", "shortest(0, #, -1)", "shortest(0, 0, #)", "fellows(#)", "thought(#, 0, 0, 0, 0)", "thought(0, #, 0, 0, 0)", "thought(0, 0, 0, 0, #)"}) {
                none.never(call, BAD);
            }
            none.never("all(#)", STATE).refused("all(2)", STATE);
        }
    }
}
