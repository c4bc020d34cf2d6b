/** The edges of TEXTS: promises 6 to 8. */
public final class TextEdgesTest {
    private static final int BAD = Run.BAD, STATE = Run.STATE, FULL = Run.FULL, FAULT = Run.FAULT;
    private static final String SIX = "r0;j0;j0;j0;j0;j0;j0;";
    private static final String MOST = "r06;j00;j01;j03;j07;j15;j31;d00;d01;d02;d03;d04;d05;d00;d05;c63;q00;w01;s02;o62;q32;";
    private static final Scene AMID = Scene.amid("r1;j0;j1;d0;d1;c0;q1;s2;", "days(1)", "change(0, 2)");
    private static final Scene NOTHING = new Scene();

    public static void main(String[] args) {
        bytes();
        fullTape();
        emptyTape();
        wholeSchools();
        inPlaceOfTheOneBefore();
        allStays();
        allStaysFromAllSides();
        laws();
        subjects();
        lessons();
        pupils();
        orderOfParts();
        theEnd();
        noTokens();
        figures();
        leastFaultOfOneToken();
        firstTokenThatHasOne();
        latestFault();
        Tally.end("TextEdgesTest");
    }

    private static void good(String text, int pupils) {
        new Run().due("= " + text, pupils).due("fault()", 0).due("count(7)", 0).due("count(1)", pupils);
    }

    /** A text with a fault, on a new object and in place of a school. */
    private static void bad(String text, int fault, int place) {
        new Run().due("= " + text, FAULT - place).due("fault()", fault).due("count(7)", 0).due("count(1)", 0).due("days(1)", STATE);
        Run.of("= r0;j0;d0;s0;", "days(1)").due("= " + text, FAULT - place).due("fault()", fault).due("count(1)", 1).due("count(4)", 1)
            .due("count(6)", 1).due("kind(0)", 4).due("pupil(0, 0)", 1).due("heard(0, 0)", 1).due("undo()", 0).due("pupil(0, 0)", 0);
    }

    private static void bytes() {
        Tally.sentence("6", "A byte (0 to 255) comes behind the tape: how many it has. BAD");
        NOTHING.ends("feed(#)", 0, 1, 255, 1);
        AMID.ends("feed(#)", 0, 19, 255, 19);
        new Run().due("count(7)", 0).due("feed(0)", 1).due("count(7)", 1).due("feed(255)", 2).due("feed(256)", BAD).due("feed(1)", 3);
    }

    private static void fullTape() {
        Tally.sentence("6", "THE TAPE has at most 120 bytes. FULL");
        String[] most = new String[121];
        most[0] = "row(0, 0, -1)";
        for (int i = 1; i <= 120; i++) most[i] = "feed(" + (i == 1 ? 114 : 48) + ")";
        Scene full = new Scene(most);
        full.due("count(7)", 120);
        full.refused("feed(0)", FULL).refused("feed(255)", FULL).refused("feed(114)", FULL);
        Tally.sentence("6", "BAD ahead of FULL");
        full.refused("feed(-1)", BAD).refused("feed(256)", BAD).refused("feed(LOW)", BAD).refused("feed(HIGH)", BAD);
        Tally.sentence("7", "The tape, empty then, is read");
        full.due("school()", FAULT - 1, "count(7)", 0, "feed(114)", 1);
        Run run = new Run();
        for (int i = 1; i <= 119; i++) run.does("feed(0)");
        run.due("feed(1)", 120).due("feed(1)", FULL).due("count(7)", 120).due("school()", FAULT);
        Tally.sentence("7", "the end: how many bytes there are, of the fullest tape");
        StringBuilder text = new StringBuilder("r00;");
        for (int s = 0; s < 6; s++) text.append("j00;");
        for (int l = 0; l < 8; l++) text.append("d00;");
        for (int p = 0; p < 6; p++) text.append("c00;");
        good(text.toString(), 6);
        while (text.length() < 119) text.append('c');
        Run.of("+ " + text).due("count(7)", 119).due("feed(99)", 120).due("school()", FAULT - 84).due("fault()", 3);
    }

    private static void emptyTape() {
        Tally.sentence("7", "the end: how many bytes there are, of an empty tape");
        new Run().due("school()", FAULT).due("fault()", 1).due("school()", FAULT).due("count(7)", 0);
        Run.of("= r0;j0;d0;c0;").due("school()", FAULT).due("fault()", 1).due("count(1)", 1);
    }

    private static void wholeSchools() {
        Tally.sentence("7", "subject { subject } lesson { lesson } pupil { pupil }, the least and the most");
        Run.of("= r0;j0;d0;c0;").due("count(1)", 1).due("count(2)", 1).due("count(3)", 1).due("fault()", 0);
        Run most = new Run().due("= " + MOST, 6).due("count(1)", 6).due("count(2)", 6).due("count(3)", 8);
        int[] needs = {0, 1, 3, 7, 15, 31}, taught = {0, 1, 2, 3, 4, 5, 0, 5, 0}, kinds = {1, 2, 3, 4, 5, 2}, knows = {63, 0, 1, 2, 62, 32};
        for (int s = 0; s < 6; s++) most.due("subject(" + s + ")", needs[s]);
        for (int d = 0; d < 9; d++) most.due("lesson(" + d + ")", taught[d]);
        for (int p = 0; p < 6; p++) {
            most.due("kind(" + p + ")", kinds[p]).due("pupil(" + p + ", 0)", knows[p]).due("pupil(" + p + ", 1)", p).due("pupil(" + p + ", 3)", 1);
        }
        most.due("subject(6)", BAD).due("kind(6)", BAD).due("teach(8, 0)", BAD).due("what(8, 0, 0, 0, 1)", BAD);
    }

    private static void inPlaceOfTheOneBefore() {
        Tally.sentence("7", "A SCHOOL that is read stands in place of the one before: DAY 0, nothing was HEARD; no ACT can be undone");
        Run run = Run.of("= " + MOST, "days(24)", "change(0, 5)", "change(1, 4)", "ask(1, 0)", "as(0, 5)");
        run.due("count(6)", 24).due("= r0;j0;j1;d1;d0;c2;c0;s0;", 3).due("count(4)", 0).due("count(6)", 0).due("undo()", STATE);
        run.due("count(1)", 3).due("count(2)", 2).due("count(3)", 2).due("count(5)", 1).due("pupil(3, 0)", BAD).due("subject(2)", BAD);
        for (int p = 0; p < 3; p++) run.due("pupil(" + p + ", 1)", p).due("heard(" + p + ", 0)", 0).due("heard(" + p + ", 1)", 0);
        run.due("pupil(1, 3)", 1).due("subject(0)", 0).due("subject(1)", 1).due("lesson(0)", 1).due("lesson(1)", 0).due("lesson(2)", 1);
        Tally.sentence("7", "and nothing else is another");
        run.due("trace(0)", 12).due("status()", 3).due("fault()", 0).due("kind(0)", 1).due("kind(2)", 4);
        run.due("= " + MOST, 6).due("heard(5, 5)", 0).due("pupil(5, 1)", 5).due("count(4)", 0).due("count(5)", 14);
    }

    private static void allStays() {
        Tally.sentence("7", "-1000100 less the place of a FAULT: all stays");
        String[] texts = {"x", "r7;", "r0;j0;j2;", SIX + "j0;", "r3;j0;j1;j0;d0;d2;o7;o7;o7", "r0;j0;d0;c0;c0;c0;c0;c0;c0;c0;"};
        int[] places = {0, 1, 7, 21, 26, 27};
        for (int t = 0; t < texts.length; t++) {
            Run run = Run.of("= r1;j0;j1;d0;d1;c0;q1;s2;", "days(1)", "change(0, 2)", "image(1)", "ask(1, 1)", "row(2, 1, 3)", "set(2, 3, 0)");
            run.due("= " + texts[t], FAULT - places[t]).due("count(0)", 1).due("count(1)", 3).due("count(2)", 2).due("count(3)", 2);
            run.due("count(4)", 1).due("count(5)", 5).due("count(6)", 2).due("pupil(0, 0)", 1).due("pupil(1, 0)", 3).due("pupil(2, 0)", 3);
            run.due("pupil(0, 1)", 2).due("kind(2)", 4).due("subject(1)", 1).due("lesson(0)", 1).due("heard(2, 0)", 1).due("trace(2)", 20);
            run.due("status()", 2).due("undo()", 1).due("pupil(0, 1)", 0).due("undo()", 0).due("count(5)", 2).due("restore(1)", 1).due("count(5)", 5);
        }
    }

    /** Behind a first text with the same fault, a second one has nothing left to change, not even the tape and the fault. */
    private static void allStaysFromAllSides() {
        Tally.sentence("7", "a FAULT: all stays, whatever the text has told ahead of it");
        Scene amid = Scene.amid("r1;j0;j1;d1;d0;c0;c0;c0;w0;", "days(1)", "change(0, 1)");
        Scene first = amid.and("= x"), second = amid.and("= x", "= r7;"), third = amid.and("= x", "= " + SIX + "j");
        first.told("= r3;j0;j0;j3;d2;d1;o7;s1;x", FAULT - 24).told("= r6;j0;j0;d0;d1;q1;q1;q1;q1;q1", FAULT - 29).told("= r0;j0;j0;d0", FAULT - 11).told("= r0;j0;j0;", FAULT - 9);
        first.told("= r6;", FAULT - 3).told("= r0,", FAULT - 2).told("school()", FAULT);
        second.told("= r4;j0;j0;d1;d1;q3;w8;", FAULT - 19).told("= r0;j0;j0;d1;d2;", FAULT - 13).told("= r0;j0;j2;", FAULT - 7).told("= r7;j0;j0;d0;c0;", FAULT - 1);
        third.told("= r5;j0;j0;j1;j1;j1;j1;j1;", FAULT - 21).told("= r5;j0;d0;o0;o0;o0;o0;o0;o0;o0;", FAULT - 27).told("= r5;j0;j0;d1;d1;d1;d1;d1;d1;d1;d1;d1;", FAULT - 33);
    }

    private static void laws() {
        Tally.sentence("7", "law: r REACH ; (0 to 6)");
        good("r0;j0;d0;c0;", 1);
        good("r6;j0;d0;c0;", 1);
        good("r00;j0;d0;c0;", 1);
        good("r06;j0;d0;c0;", 1);
        for (String number : new String[] {"7", "07", "8", "9", "10", "60", "99"}) bad("r" + number + ";j0;d0;c0;", 2, 1);
        for (int reach = 0; reach <= 6; reach++) {
            Run run = Run.of("= r" + reach + ";j0;d0;c0;c0;c0;c0;c0;c0;");
            for (int p = 0; p < 6; p++) run.due("pupil(" + p + ", 3)", p <= reach ? 1 : 0);
        }
    }

    private static void subjects() {
        Tally.sentence("7", "subject: j NEEDS ; (a set of SUBJECTS told ahead of it, as bits: 0 to 31; 6 at most)");
        StringBuilder ahead = new StringBuilder("r0;");
        for (int s = 0; s < 6; s++) {
            int first = (1 << s);
            good(ahead + "j0;d0;c0;", 1);
            Run.of("= " + ahead + "j" + (first - 1) + ";d0;c0;").due("count(2)", s + 1).due("subject(" + s + ")", first - 1);
            bad(ahead + "j" + first + ";d0;c0;", 2, ahead.length() + 1);
            bad(ahead + "j99;d0;c0;", 2, ahead.length() + 1);
            ahead.append("j0;");
        }
        Tally.sentence("8", "3 a subject more than there is room for (its letter)");
        good(SIX + "d5;c63;", 1);
        bad(SIX + "j0;d0;c0;", 3, 21);
        bad(SIX + "j", 3, 21);
        bad(SIX + "j99;", 3, 21);
        bad(SIX + "jj", 3, 21);
    }

    private static void lessons() {
        Tally.sentence("7", "lesson: d SUBJECT ; (one of them; 8 at most)");
        StringBuilder text = new StringBuilder("r0;");
        for (int subjects = 1; subjects <= 6; subjects++) {
            text.append("j0;");
            Run.of("= " + text + "d" + (subjects - 1) + ";c0;").due("lesson(0)", subjects - 1).due("lesson(60)", subjects - 1);
            bad(text + "d" + subjects + ";c0;", 2, text.length() + 1);
            bad(text + "d99;c0;", 2, text.length() + 1);
        }
        Tally.sentence("8", "3 a lesson more than there is room for (its letter)");
        String eight = "r0;j0;d0;d0;d0;d0;d0;d0;d0;d0;";
        Run.of("= " + eight + "c0;").due("count(3)", 8);
        bad(eight + "d0;c0;", 3, 30);
        bad(eight + "d", 3, 30);
        bad(eight + "d9;", 3, 30);
    }

    private static void pupils() {
        Tally.sentence("7", "pupil: SORT KNOWS ; (a set of SUBJECTS that there are, as bits: 0 to 63; 6 at most)");
        StringBuilder text = new StringBuilder("r0;");
        for (int subjects = 1; subjects <= 6; subjects++) {
            text.append("j0;");
            int all = (1 << subjects) - 1;
            Run.of("= " + text + "d0;c0;o" + all + ";").due("pupil(0, 0)", 0).due("pupil(1, 0)", all);
            bad(text + "d0;c" + (all + 1) + ";", 2, text.length() + 4);
            bad(text + "d0;s99;", 2, text.length() + 4);
        }
        Tally.sentence("7", "SORT: c a child, q a quick one, w a slow one, s a snake, o an old snake");
        for (char sort = 'a'; sort <= 'z'; sort++) {
            int kind = 1 + "cqwso".indexOf(sort);
            String one = "r0;j0;d0;" + sort + "1;";
            if (kind > 0) Run.of("= " + one).due("count(1)", 1).due("kind(0)", kind);
            if (kind == 0 && sort != 'd') bad(one, 1, 9);
        }
        Tally.sentence("8", "3 a pupil more than there is room for (its letter)");
        String six = "r0;j0;d0;c0;q0;w0;s0;o0;c0;";
        good(six, 6);
        for (char sort : "cqwso".toCharArray()) bad(six + sort + "0;", 3, 27);
        bad(six + "c", 3, 27);
        bad(six + "c2;", 3, 27);
    }

    private static void orderOfParts() {
        Tally.sentence("7", "school: law subject { subject } lesson { lesson } pupil { pupil }");
        bad("j0;d0;c0;", 1, 0);
        bad("d0;c0;", 1, 0);
        bad("c0;", 1, 0);
        bad("r0;r0;j0;d0;c0;", 1, 3);
        bad("r0;d0;c0;", 1, 3);
        bad("r0;c0;", 1, 3);
        bad("r0;j0;c0;", 1, 6);
        bad("r0;j0;r0;", 1, 6);
        bad("r0;j0;d0;r0;", 1, 9);
        bad("r0;j0;d0;j0;", 1, 9);
        bad("r0;j0;d0;c0;d0;", 1, 12);
        bad("r0;j0;d0;c0;j0;", 1, 12);
        bad("r0;j0;d0;c0;r0;j0;d0;c0;", 1, 12);
    }

    private static void theEnd() {
        Tally.sentence("8", "1 it cannot stand there (the end: how many bytes there are)");
        String whole = "r0;j0;d0;c0;";
        for (int length = 0; length < whole.length(); length++) bad(whole.substring(0, length), 1, length);
        String two = whole + "q1;";
        for (int length = whole.length() + 1; length < two.length(); length++) bad(two.substring(0, length), 1, length);
        bad("r", 1, 1);
        bad("r06", 1, 3);
    }

    private static void noTokens() {
        Tally.sentence("7", "letters a to z (each by itself), NUMBERS (figures), SIGNS , and ; nothing else");
        String whole = "r0;j0;d0;c0;";
        for (int at = 0; at <= whole.length(); at++) {
            for (char none : new char[] {0, 9, 10, 13, 32, '+', '-', '.', '/', ':', '<', 'A', 'C', 'J', 'R', 'Z', '[', '`', '{', 127, 128, 234, 255}) {
                new Run().due("= " + whole.substring(0, at) + none + whole.substring(at), FAULT - at).due("fault()", 1);
            }
        }
        Tally.sentence("8", "1 it cannot stand there");
        for (int at = 0; at <= whole.length(); at++) {
            for (char token : new char[] {',', ';', 'a', 'x', 'z'}) {
                // Behind a number a sign ; is the one that was due, and the next one comes too early.
                int place = token == ';' && at % 3 == 2 ? at + 1 : at;
                new Run().due("= " + whole.substring(0, at) + token + whole.substring(at), FAULT - place).due("fault()", 1);
            }
        }
    }

    private static void figures() {
        Tally.sentence("8", "a run of three figures, at its first");
        bad("r000;j0;d0;c0;", 1, 1);
        bad("r006;j0;d0;c0;", 1, 1);
        bad("r999;", 1, 1);
        bad("r0;j000;d0;c0;", 1, 4);
        bad("r0;j0;d000;c0;", 1, 7);
        bad("r0;j0;d0;c001;", 1, 10);
        bad("r0000;", 1, 1);
        bad("r00000", 1, 1);
        bad("000r0;", 1, 0);
        bad("r0;000", 1, 3);
        bad("r0000000000000000000000000000000000000000", 1, 1);
        bad("r4294967296;", 1, 1);
        Tally.sentence("7", "NUMBERS (figures, 2 at most)");
        good("r05;j00;d00;c01;", 1);
        good("r0;j0;j01;d01;c03;", 1);
        bad("r0 0;", 1, 2);
        bad("r0,0;", 1, 2);
        Run.of("= r0;j0;j0;j0;j0;d0;c10;c09;").due("pupil(0, 0)", 10).due("pupil(1, 0)", 9);
    }

    private static void leastFaultOfOneToken() {
        Tally.sentence("8", "of one TOKEN the least");
        // A number where none can stand, that would be too great; letters where they cannot stand, and have no room either.
        bad("99", 1, 0);
        bad("r0;99", 1, 3);
        bad("r0;j0;d0;c0;99;", 1, 12);
        bad(SIX + "d0;j0;", 1, 24);
        bad(SIX + "d0;c0;j0;", 1, 27);
        bad("r0;j0;d0;d0;d0;d0;d0;d0;d0;d0;c0;d0;", 1, 33);
        bad("r0;j0;d0;c0;q0;w0;s0;o0;c0;d0;", 1, 27);
        bad("r0;j0;d0;c0;q0;w0;s0;o0;c0;x0;", 1, 27);
        bad("r999;", 1, 1);
    }

    private static void firstTokenThatHasOne() {
        Tally.sentence("8", "the first TOKEN that has one (its first byte)");
        bad("r7,", 2, 1);
        bad("r7;j9;d9;x", 2, 1);
        bad("r0,j9;", 1, 2);
        bad("r0;j1;\u0000", 2, 4);
        bad("r0;j12;d0;c0;", 2, 4);
        bad(SIX + "j;", 3, 21);
        bad(SIX + "d7;j0;", 2, 22);
        bad("r0;j0;d0;c10;", 2, 10);
        bad("r0;j0;d0;cc", 1, 10);
        bad("r0;j0;d0;c;", 1, 10);
        bad("r0;j0;d0;c0c", 1, 11);
        bad("r0;j0;d0;c0;;", 1, 12);
    }

    private static void latestFault() {
        Tally.sentence("8", "The number of the latest FAULT; 0 before one");
        Run run = new Run().due("fault()", 0).does("= r0;j0;d0;c0;").due("fault()", 0);
        run.does("= r7;").due("fault()", 2).does("= r0;j0;d0;c0;").due("fault()", 2).does("= " + SIX + "j").due("fault()", 3);
        run.due("feed(256)", BAD).due("undo()", STATE).due("days(25)", BAD).due("row(0, 0, -1)", Run.SIZE).due("fault()", 3);
        run.does("school()").due("fault()", 1).does("image(0)", "restore(0)", "days(1)", "undo()").due("fault()", 1);
    }
}
