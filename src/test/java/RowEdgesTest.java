/** The edges of ROWS: promises 2 to 5, and the rows that 30 and 31 look at. */
public final class RowEdgesTest {
    private static final int BAD = Run.BAD, NULL = Run.NULL, PLACE = Run.PLACE, SIZE = Run.SIZE, STORE = Run.STORE;
    private static final int LOW = Run.LOW, HIGH = Run.HIGH;

    /** Three children, of whom only the one in front hears; row 7 tells its forms 1 2 3 3 .. 3. */
    private static final Scene AMID = Scene.amid("r0;j0;j0;j0;d0;d1;d2;c0;c0;c0;", "tell(2, 2)", "forget(2, 2)");
    private static final Scene NOTHING = new Scene();
    private static final Scene NO_SCHOOL = new Scene("= r0,", "row(0, 0, 3)", "set(0, 0, 1)", "row(7, 2, 12)", "+ r0;j0;", "row(1, 0, -1)");

    public static void main(String[] args) {
        missingAtFirst();
        rowsAreMade();
        rowsInPlaceOfOthers();
        itemsFitTheirLane();
        itemsAreKeptAsTheyFit();
        placesOfItems();
        copiesWithinTheEnds();
        copiesAsTheyWereAhead();
        copiesOfLanes();
        copiesOfMissing();
        drops();
        whoWithinTheEnds();
        whoPlaces();
        kindsAndSeatsThatFit();
        whatWithinTheEnds();
        whatPlaces();
        whoAndWhatWithoutSchool();
        itemsThatFitNothing();
        Tally.end("RowEdgesTest");
    }

    private static void missingAtFirst() {
        Tally.sentence("2", "ROWS 0 .. 7 are missing (at first)");
        for (int row = 0; row < 8; row++) {
            NOTHING.refused("set(" + row + ", 0, 0)", NULL);
            NOTHING.refused("drop(" + row + ")", NULL);
            NOTHING.refused("copy(" + row + ", 0, " + row + ", 0, 0)", NULL);
        }
        NOTHING.due("count(0)", 0);
        Run run = new Run();
        for (int row = 0; row < 8; row++) run.due("row(" + row + ", 0, 0)", 0).due("count(0)", row + 1);
        run.due("row(3, 1, 40)", 40).due("count(0)", 8);
    }

    private static void rowsAreMade() {
        Tally.sentence("2", "BAD: ROW, LANE, n above 40; SIZE");
        for (Scene scene : new Scene[] {NOTHING, NO_SCHOOL, AMID}) {
            scene.ends("row(#, 0, 1)", 0, 1, 7, 1);
            scene.ends("row(5, #, 1)", 0, 1, 2, 1);
            scene.ends("row(0, 0, #)", 0, 0, 40, 40, SIZE, BAD);
            scene.ends("row(6, 1, #)", 0, 0, 40, 40, SIZE, BAD);
            scene.ends("row(7, 2, #)", 0, 0, 40, 40, SIZE, BAD);
        }
        Tally.sentence("2", "Refusals are answers, the first of these that fits: BAD ahead of SIZE");
        AMID.never("row(8, #, -1)", BAD).never("row(-1, #, -1)", BAD);
        AMID.refused("row(0, 3, -1)", BAD).refused("row(0, -1, -1)", BAD).refused("row(0, 3, LOW)", BAD).refused("row(HIGH, 0, LOW)", BAD);
        Tally.sentence("2", "0 to 40 ITEMS");
        for (int lane = 0; lane < 3; lane++) {
            Run.of("row(0, " + lane + ", 0)").due("set(0, 0, 1)", PLACE).due("drop(0)", 0);
            Run.of("row(0, " + lane + ", 1)").due("set(0, 0, 1)", 1).due("set(0, 1, 1)", PLACE).due("drop(0)", 1);
            Run.of("row(0, " + lane + ", 40)").due("set(0, 39, 1)", 1).due("set(0, 40, 1)", PLACE).due("drop(0)", 40);
        }
    }

    private static void rowsInPlaceOfOthers() {
        Tally.sentence("2", "ITEMS, 0 at first");
        // Only snakes come to know what needs another thing, so a form of 0 fits the rest.
        Run zero = Run.of("= r6;j0;j1;d1;c0;");
        for (int lane = 0; lane < 3; lane++) zero.does("row(0, " + lane + ", 40)").due("who(0, 0, 0, 0, 12)", 2 | 4 | 8).due("who(0, 0, 0, 28, 12)", 2 | 4 | 8);
        Tally.sentence("2", "in place of what is there; 0 at first");
        Run run = Run.of("= r6;j0;d0;c1;s0;", "row(0, 0, 2)", "set(0, 0, 1)", "set(0, 1, 1)");
        run.due("who(0, 0, 0, 1, 1)", 62).due("row(0, 0, 2)", 2).due("who(0, 0, 0, 0, 1)", 0).due("who(0, 0, 0, 1, 1)", 0);
        run.does("set(0, 1, 1)").due("row(0, 0, 1)", 1).due("set(0, 1, 1)", PLACE).due("row(0, 0, 2)", 2);
        run.due("who(0, 0, 0, 1, 1)", 0).due("count(0)", 1);
        run.does("set(0, 1, 1)").due("drop(0)", 2).due("row(0, 0, 2)", 2).due("who(0, 0, 0, 1, 1)", 0);
        run.does("row(0, 2, 40)", "set(0, 39, 1)", "row(0, 2, 40)").due("who(0, 0, 0, 39, 1)", 0);
        run.due("row(0, 1, 2)", 2).due("set(0, 0, 40000)", -25536).due("row(0, 0, 2)", 2).due("set(0, 0, 40000)", 64);
        run.due("row(0, 2, 2)", 2).due("set(0, 0, 40000)", 40000);
    }

    private static void itemsFitTheirLane() {
        Tally.sentence("3", "its lowest bits, as many as the LANE has: what it is then");
        long[][] bytes = {{0, 0}, {127, 127}, {128, -128}, {255, -1}, {256, 0}, {257, 1}, {-1, -1}, {-128, -128}, {-129, 127},
            {-256, 0}, {32767, -1}, {32768, 0}, {HIGH, -1}, {LOW, 0}};
        long[][] shorts = {{0, 0}, {128, 128}, {32767, 32767}, {32768, -32768}, {65535, -1}, {65536, 0}, {65537, 1}, {-1, -1},
            {-32768, -32768}, {-32769, 32767}, {-65536, 0}, {HIGH, -1}, {LOW, 0}};
        long[][] ints = {{0, 0}, {128, 128}, {32768, 32768}, {65536, 65536}, {-1, -1}, {-129, -129}, {HIGH, HIGH}, {LOW, LOW}};
        long[][][] lanes = {bytes, shorts, ints};
        for (int lane = 0; lane < 3; lane++) {
            Run run = Run.of("row(0, " + lane + ", 40)");
            for (long[] pair : lanes[lane]) run.due("set(0, 39, " + pair[0] + ")", pair[1]).due("status()", 0);
        }
    }

    private static void itemsAreKeptAsTheyFit() {
        Tally.sentence("3", "ITEM i becomes v, its lowest bits");
        // The one pupil has a form of 1 behind each day, whatever its kind.
        String school = "= r6;j0;d0;c1;";
        Run.of(school, "row(0, 0, 1)").due("set(0, 0, 257)", 1).due("who(0, 0, 0, 0, 1)", 62).due("set(0, 0, 129)", -127).due("who(0, 0, 0, 0, 1)", 0);
        Run.of(school, "row(0, 1, 1)").due("set(0, 0, 257)", 257).due("who(0, 0, 0, 0, 1)", 0).due("set(0, 0, 65537)", 1).due("who(0, 0, 0, 0, 1)", 62);
        Run.of(school, "row(0, 2, 1)").due("set(0, 0, 65537)", 65537).due("who(0, 0, 0, 0, 1)", 0).due("set(0, 0, 1)", 1).due("who(0, 0, 0, 0, 1)", 62);
    }

    private static void placesOfItems() {
        Tally.sentence("3", "BAD: ROW; NULL; PLACE");
        AMID.ends("set(#, 0, 5)", 0, 5, 7, 5);
        AMID.ends("set(0, #, 5)", 0, 5, 2, 5, PLACE, PLACE);
        AMID.ends("set(1, #, 5)", 0, 5, 3, 5, PLACE, PLACE);
        AMID.ends("set(2, #, 5)", 0, 5, 1, 5, PLACE, PLACE);
        AMID.ends("set(7, #, 5)", 0, 5, 11, 5, PLACE, PLACE);
        AMID.never("set(3, #, 5)", PLACE);
        AMID.never("set(4, #, 5)", NULL);
        AMID.never("set(8, #, 5)", BAD).never("set(-1, #, 5)", BAD);
        NO_SCHOOL.ends("set(0, #, 5)", 0, 5, 2, 5, PLACE, PLACE);
        Tally.sentence("3", "ITEM i becomes v, no other");
        AMID.due("set(0, 0, 4)", 4, "set(7, 0, 1)", 1, "who(0, 0, 0, 1, 1)", 0, "who(0, 0, 7, 0, 1)", 54, "who(0, 0, 0, 0, 1)", 0);
        AMID.due("set(0, 2, 1)", 1, "who(0, 0, 0, 2, 1)", 54, "who(0, 0, 0, 1, 1)", 0, "who(0, 0, 0, 0, 1)", 54);
    }

    private static void copiesWithinTheEnds() {
        Tally.sentence("4", "BAD: ROWS; PLACE (i, j, n below 0, or beyond an end)");
        AMID.ends("copy(#, 0, 7, 0, 1)", 0, 1, 7, 1).ends("copy(7, 0, #, 0, 1)", 0, 1, 7, 1);
        AMID.ends("copy(0, #, 7, 0, 1)", 0, 1, 2, 1, PLACE, PLACE).ends("copy(7, #, 0, 0, 3)", 0, 3, 9, 3, PLACE, PLACE);
        AMID.ends("copy(7, 0, 0, #, 1)", 0, 1, 2, 1, PLACE, PLACE).ends("copy(0, 0, 7, #, 3)", 0, 3, 9, 3, PLACE, PLACE);
        AMID.ends("copy(0, 0, 7, 0, #)", 0, 0, 3, 3, PLACE, PLACE).ends("copy(7, 0, 0, 0, #)", 0, 0, 3, 3, PLACE, PLACE);
        AMID.ends("copy(7, 0, 7, 0, #)", 0, 0, 12, 12, PLACE, PLACE).ends("copy(7, 11, 7, 0, #)", 0, 0, 1, 1, PLACE, PLACE);
        AMID.ends("copy(7, 0, 7, 11, #)", 0, 0, 1, 1, PLACE, PLACE).ends("copy(7, 12, 7, 12, #)", 0, 0, 0, 0, PLACE, PLACE);
        Tally.sentence("4", "none of ITEMS, at the end of a ROW, and of a ROW that has none");
        AMID.ends("copy(0, #, 7, 0, 0)", 0, 0, 3, 0, PLACE, PLACE).ends("copy(0, 0, 7, #, 0)", 0, 0, 12, 0, PLACE, PLACE);
        AMID.ends("copy(3, #, 0, 0, 0)", 0, 0, 0, 0, PLACE, PLACE).ends("copy(0, 0, 3, #, 0)", 0, 0, 0, 0, PLACE, PLACE);
        AMID.ends("copy(3, 0, 3, 0, #)", 0, 0, 0, 0, PLACE, PLACE);
        AMID.toldWithoutFinding("copy(0, 3, 7, 12, 0)", 0).toldWithoutFinding("copy(7, 3, 7, 3, 9)", 9);
        Tally.sentence("4", "sums that would go round");
        AMID.refused("copy(0, 1, 7, 1, HIGH)", PLACE).refused("copy(0, HIGH, 7, HIGH, HIGH)", PLACE).refused("copy(0, HIGH, 7, 0, 1)", PLACE);
        AMID.refused("copy(0, LOW, 7, 0, LOW)", PLACE).refused("copy(0, HIGH, 7, 0, LOW)", PLACE).refused("copy(0, 0, 7, HIGH, 2)", PLACE);
        AMID.refused("copy(0, 4, 7, 0, -1)", PLACE).refused("copy(0, 2, 7, 2, -1)", PLACE);
        NO_SCHOOL.ends("copy(0, 0, 0, 0, #)", 0, 0, 3, 3, PLACE, PLACE);
    }

    private static void copiesAsTheyWereAhead() {
        Tally.sentence("4", "n ITEMS of a from i on come to b from j on, as they were ahead");
        // Row 7 has 1 2 3 3 .., and the child in front comes to have a form of 1, 2, 3 behind three days.
        AMID.due("copy(7, 0, 7, 1, 11)", 11, "who(0, 0, 7, 1, 11)", 54, "who(0, 0, 7, 0, 1)", 54, "who(0, 0, 7, 0, 2)", 0);
        AMID.due("copy(7, 1, 7, 0, 11)", 11, "set(7, 0, 1)", 1, "set(7, 1, 2)", 2, "who(0, 0, 7, 0, 12)", 54);
        AMID.due("copy(0, 0, 7, 9, 3)", 3, "who(0, 0, 7, 9, 3)", 54, "who(0, 0, 7, 0, 9)", 54, "who(0, 0, 0, 0, 3)", 54, "drop(7)", 12);
        Run most = Run.of("= r0;j0;j0;j0;d0;d1;d2;c0;", "row(0, 2, 40)", "row(1, 2, 40)", "set(0, 37, 1)", "set(0, 38, 2)", "set(0, 39, 3)");
        most.due("copy(0, 0, 1, 0, 40)", 40).due("who(0, 0, 1, 37, 3)", 54).due("copy(0, 0, 1, 0, 41)", PLACE);
        most.due("copy(0, 37, 0, 0, 3)", 3).due("who(0, 0, 0, 0, 3)", 54).due("copy(0, 38, 0, 0, 3)", PLACE);
        Tally.sentence("4", "items that were made by their LANE stay as they are");
        Run.of("= r0;j0;d0;c1;", "row(0, 0, 1)", "row(1, 0, 1)", "set(0, 0, 257)").due("copy(0, 0, 1, 0, 1)", 1).due("who(0, 0, 1, 0, 1)", 62);
    }

    private static void copiesOfLanes() {
        Tally.sentence("4", "STORE, behind NULL and ahead of PLACE");
        int[][] others = {{0, 1}, {1, 0}, {0, 2}, {2, 0}, {1, 2}, {2, 1}, {3, 1}};
        for (int[] pair : others) {
            String from = "copy(" + pair[0] + ", ", to = ", " + pair[1] + ", ";
            AMID.refused(from + "0" + to + "0, 1)", STORE).refused(from + "0" + to + "0, 0)", STORE);
            AMID.refused(from + "-1" + to + "0, 1)", STORE).refused(from + "0" + to + "99, 1)", STORE).refused(from + "0" + to + "0, LOW)", STORE);
            AMID.refused(from + "HIGH" + to + "HIGH, HIGH)", STORE);
        }
    }

    private static void copiesOfMissing() {
        Tally.sentence("4", "NULL, ahead of STORE and PLACE");
        AMID.refused("copy(4, 0, 0, 0, 0)", NULL).refused("copy(0, 0, 4, 0, 0)", NULL).refused("copy(5, 0, 6, 0, 0)", NULL);
        AMID.refused("copy(4, -1, 0, 0, 1)", NULL).refused("copy(0, 99, 4, 0, 1)", NULL).refused("copy(1, 0, 4, -1, LOW)", NULL);
        Tally.sentence("4", "BAD ahead of NULL");
        AMID.refused("copy(4, 0, 8, 0, 0)", BAD).refused("copy(8, 0, 4, 0, 0)", BAD).refused("copy(-1, 0, 0, 0, 0)", BAD);
        AMID.refused("copy(0, 0, -1, 0, 0)", BAD).refused("copy(8, -1, 8, -1, -1)", BAD);
    }

    private static void drops() {
        Tally.sentence("5", "how many ITEMS it had. BAD; NULL");
        AMID.ends("drop(#)", 0, 3, 7, 12);
        AMID.refused("drop(4)", NULL).refused("drop(6)", NULL);
        AMID.due("drop(3)", 0, "count(0)", 4, "drop(3)", NULL, "set(3, 0, 0)", NULL);
        AMID.due("drop(7)", 12, "who(0, 0, 7, 0, 1)", NULL, "what(0, 0, 7, 0, 1)", NULL, "copy(7, 0, 0, 0, 0)", NULL);
        NO_SCHOOL.ends("drop(#)", 0, 3, 7, 12);
        Run.of("row(2, 1, 40)").due("drop(2)", 40).due("count(0)", 0);
    }

    private static void whoWithinTheEnds() {
        Tally.sentence("30", "BAD: PUPIL, which, ROW, n");
        // A form of 1 behind the first day: in front all but the slow one, far behind the snakes alone.
        AMID.ends("who(#, 0, 7, 0, 1)", 0, 54, 2, 48).ends("who(0, #, 7, 0, 1)", 0, 54, 1, 1);
        AMID.ends("who(0, 0, #, 0, 1)", 0, 54, 7, 54).ends("who(0, 0, 7, 0, #)", 1, 54, 12, 54);
        AMID.refused("who(0, 0, 7, 0, 0)", BAD).refused("who(0, 0, 4, 0, 13)", BAD).refused("who(0, 2, 4, -1, 1)", BAD);
        AMID.refused("who(3, 0, 4, -1, 1)", BAD).refused("who(0, 0, 8, -1, 1)", BAD).refused("who(0, 0, 0, 99, 0)", BAD);
        AMID.toldWithoutFinding("who(0, 0, 7, 0, 12)", 54).toldWithoutFinding("who(2, 1, 7, 0, 12)", 1);
    }

    private static void whoPlaces() {
        Tally.sentence("30", "n ITEMS of a ROW from i on: NULL; PLACE");
        AMID.ends("who(0, 0, 7, #, 1)", 0, 54, 11, 0, PLACE, PLACE).ends("who(0, 0, 7, #, 12)", 0, 54, 0, 54, PLACE, PLACE);
        AMID.ends("who(0, 1, 0, #, 3)", 0, 1, 0, 1, PLACE, PLACE).ends("who(0, 1, 0, #, 2)", 0, 1, 1, 0, PLACE, PLACE);
        AMID.refused("who(0, 0, 0, 0, 4)", PLACE).refused("who(0, 0, 0, 0, 12)", PLACE).refused("who(0, 0, 0, HIGH, 12)", PLACE);
        AMID.never("who(0, 0, 3, #, 1)", PLACE).never("who(0, 0, 4, #, 1)", NULL).never("who(0, 1, 5, #, 12)", NULL);
        Run most = Run.of("= r0;j0;j0;j0;d0;d1;d2;c0;", "row(6, 2, 40)", "set(6, 39, 1)");
        most.due("who(0, 0, 6, 39, 1)", 54).due("who(0, 0, 6, 40, 1)", PLACE).due("who(0, 0, 6, 28, 12)", 0).due("who(0, 0, 6, 29, 12)", PLACE);
    }

    private static void kindsAndSeatsThatFit() {
        Tally.sentence("30", "KINDS (bits 1 to 5), SEATS (0 on, bits): none and all");
        Run all = Run.of("= r6;j0;d0;c1;c1;c1;c1;c1;c1;", "row(0, 0, 2)", "set(0, 0, 1)");
        for (int p = 0; p < 6; p++) {
            all.due("who(" + p + ", 0, 0, 0, 1)", 62).due("who(" + p + ", 1, 0, 0, 1)", 63).due("who(" + p + ", 0, 0, 1, 1)", 0).due("who(" + p + ", 1, 0, 1, 1)", 0);
        }
        Run front = Run.of("= r0;j0;d0;c0;c0;c0;c0;c0;c0;", "row(0, 0, 2)", "set(0, 0, 1)");
        for (int p = 0; p < 6; p++) front.due("who(" + p + ", 1, 0, 0, 1)", 1).due("who(" + p + ", 1, 0, 1, 1)", 62);
        Run.of("= r6;j0;d0;s0;", "row(0, 0, 1)", "set(0, 0, 1)").due("who(0, 1, 0, 0, 1)", 1).due("who(0, 0, 0, 0, 1)", 54);
        Tally.sentence("30", "it is put there in place of who is, who comes to its own");
        Run.of("= r0;j0;d0;c0;c1;c0;", "row(0, 0, 1)", "set(0, 0, 1)").due("who(2, 1, 0, 0, 1)", 5).due("who(0, 1, 0, 0, 1)", 7).due("who(1, 1, 0, 0, 1)", 7);
    }

    private static void whatWithinTheEnds() {
        Tally.sentence("31", "BAD: LESSON, PUPIL, ROW, n");
        AMID.ends("what(#, 0, 7, 0, 1)", -1, 127, 2, 7).ends("what(-1, #, 7, 0, 1)", 0, 127, 2, 124);
        AMID.ends("what(-1, 0, #, 0, 1)", 0, 127, 7, 127).ends("what(2, 0, 7, 0, #)", 1, 7, 12, 4);
        AMID.refused("what(3, 0, 4, 0, 1)", BAD).refused("what(-2, 0, 7, -1, 1)", BAD).refused("what(0, 3, 4, 0, 1)", BAD);
        AMID.refused("what(0, 0, 8, 99, 1)", BAD).refused("what(0, 0, 4, 0, 0)", BAD).refused("what(0, 0, 0, 99, 13)", BAD);
        AMID.toldWithoutFinding("what(-1, 0, 7, 0, 12)", 127).toldWithoutFinding("what(0, 0, 7, 0, 12)", 1);
    }

    private static void whatPlaces() {
        Tally.sentence("31", "likewise: NULL; PLACE");
        AMID.ends("what(2, 0, 7, #, 1)", 0, 7, 11, 0, PLACE, PLACE).ends("what(2, 0, 7, #, 12)", 0, 4, 0, 4, PLACE, PLACE);
        AMID.refused("what(0, 0, 0, 0, 4)", PLACE).refused("what(-1, 0, 0, 1, 3)", PLACE).refused("what(-1, 0, 0, HIGH, 12)", PLACE);
        AMID.never("what(-1, 0, 3, #, 1)", PLACE).never("what(0, 0, 4, #, 1)", NULL).never("what(-1, 0, 6, #, 12)", NULL);
        Run most = Run.of("= r0;j0;j0;j0;d0;d1;d2;c0;", "row(6, 1, 40)", "set(6, 39, 1)");
        most.due("what(0, 0, 6, 39, 1)", 7).due("what(0, 0, 6, 40, 1)", PLACE).due("what(0, 0, 6, 28, 12)", 0).due("what(0, 0, 6, 29, 12)", PLACE);
    }

    private static void whoAndWhatWithoutSchool() {
        Tally.sentence("30, 31", "BAD: there is no such thing");
        for (Scene scene : new Scene[] {NOTHING, NO_SCHOOL}) {
            scene.never("who(#, 0, 0, 0, 1)", BAD).never("who(#, 1, 5, 0, 1)", BAD);
            scene.never("what(#, 0, 0, 0, 1)", BAD).never("what(-1, #, 5, 0, 1)", BAD);
        }
    }

    private static void itemsThatFitNothing() {
        Tally.sentence("30, 31", "the FORM of a PUPIL behind each of n DAYS");
        for (int lane = 0; lane < 3; lane++) {
            Run run = Run.of("= r6;j0;j0;j0;j0;j0;j0;d0;c63;c0;", "row(0, " + lane + ", 1)");
            // Who knows all six stays so, but for an old snake, who forgets; who knows none learns one, but for a slow one.
            run.does("set(0, 0, 6)").due("who(0, 0, 0, 0, 1)", 30).due("what(-1, 0, 0, 0, 1)", 127).due("what(0, 0, 0, 0, 1)", 63);
            run.does("set(0, 0, 7)").due("who(0, 0, 0, 0, 1)", 0).due("what(-1, 0, 0, 0, 1)", 0).due("what(0, 0, 0, 0, 1)", 0);
            run.does("set(0, 0, 0)").due("who(1, 0, 0, 0, 1)", 8).due("what(-1, 1, 0, 0, 1)", 0).due("who(1, 1, 0, 0, 1)", 0);
            for (String v : new String[] {"-1", "LOW", "HIGH"}) {
                run.does("set(0, 0, " + v + ")");
                for (int p = 0; p < 2; p++) run.due("who(" + p + ", 0, 0, 0, 1)", lane == 0 && v.equals("LOW") || lane == 1 && v.equals("LOW") ? p * 8 : 0);
            }
        }
    }
}
