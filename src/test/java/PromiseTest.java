/** The promises of the document one by one: ordinary inputs, the edges that it names, wrong inputs. */
public final class PromiseTest {
    private static final int NONE = -1000000, BAD = -1000001, STATE = -1000002, FULL = -1000003;
    private static final int NULL = -1000011, PLACE = -1000012, KIND = -1000013, SIZE = -1000014, STORE = -1000015;
    private static final int FAULT = -1000100;
    private static final int LOW = Integer.MIN_VALUE, HIGH = Integer.MAX_VALUE;

    private static int wrong;
    private static int asked;
    private static String promise = "";

    private static void due(String call, long got, long want) {
        asked++;
        if (got != want) {
            wrong++;
            System.out.println("promise " + promise + ": " + call + " answered " + got + ", due is " + want);
        }
    }

    private static void feed(SnakeRoll x, String text) {
        for (char c : text.toCharArray()) x.feed(c);
    }

    private static int read(SnakeRoll x, String text) {
        feed(x, text);
        return x.school();
    }

    private static SnakeRoll roll(String text) {
        SnakeRoll x = new SnakeRoll();
        read(x, text);
        return x;
    }

    private static void row(SnakeRoll x, int row, int... items) {
        x.row(row, 0, items.length);
        for (int i = 0; i < items.length; i++) x.set(row, i, items[i]);
    }

    public static void main(String[] args) {
        wrongAnswers();
        System.out.println("PromiseTest: " + asked + " answers, " + wrong + " wrong");
        if (wrong != 0) System.exit(1);
    }

    /** How many answers are not as due; BreakTest asks for them by itself. */
    static int wrongAnswers() {
        newObject();
        rows();
        items();
        copies();
        drops();
        feeds();
        schools();
        faults();
        undos();
        days();
        hearing();
        kindsLearn();
        changes();
        teaches();
        forgetsAndTells();
        pupils();
        heardAndSubjects();
        lessons();
        ahead();
        when();
        all();
        followsAndLacks();
        shortest();
        seating();
        tables();
        questions();
        topAndFellows();
        who();
        what();
        thought();
        drawn();
        images();
        kindsAndAs();
        asks();
        counts();
        statuses();
        leftByRows();
        leftByTold();
        leftByDone();
        leftByForetold();
        leftByAsked();
        return wrong;
    }

    private static void newObject() {
        promise = "1";
        SnakeRoll x = new SnakeRoll();
        for (int what = 0; what <= 7; what++) due("count(" + what + ")", x.count(what), 0);
        due("status()", x.status(), 0);
        due("fault()", x.fault(), 0);
        due("trace(0)", x.trace(0), NONE);
        due("days(1)", x.days(1), STATE);
        due("drop(7)", x.drop(7), NULL);
        due("restore(1)", x.restore(1), STATE);
    }

    private static void rows() {
        promise = "2";
        SnakeRoll x = new SnakeRoll();
        due("row(0, 0, 40)", x.row(0, 0, 40), 40);
        due("row(7, 2, 0)", x.row(7, 2, 0), 0);
        due("row(8, 0, 1)", x.row(8, 0, 1), BAD);
        due("row(-1, 0, 1)", x.row(-1, 0, 1), BAD);
        due("row(0, 3, 1)", x.row(0, 3, 1), BAD);
        due("row(0, -1, 1)", x.row(0, -1, 1), BAD);
        due("row(0, 0, 41)", x.row(0, 0, 41), BAD);
        due("row(0, 0, HIGH)", x.row(0, 0, HIGH), BAD);
        due("row(8, 0, -1)", x.row(8, 0, -1), BAD);
        due("row(0, 3, -1)", x.row(0, 3, -1), BAD);
        due("row(0, 0, -1)", x.row(0, 0, -1), SIZE);
        due("row(0, 0, LOW)", x.row(0, 0, LOW), SIZE);
        due("set(0, 39, 1), the row stays", x.set(0, 39, 1), 1);
        due("row(0, 1, 2)", x.row(0, 1, 2), 2);
        due("set(0, 2, 1), in place of the old row", x.set(0, 2, 1), PLACE);
        due("set(0, 1, 300), of the new lane", x.set(0, 1, 300), 300);
        due("count(0)", x.count(0), 2);
        read(x, "r0;j0;d0;c1;");
        row(x, 1, 1);
        due("who, form 1", x.who(0, 0, 1, 0, 1), 62);
        x.row(1, 0, 1);
        due("who, items are 0 anew", x.who(0, 0, 1, 0, 1), 0);
    }

    private static void items() {
        promise = "3";
        SnakeRoll x = new SnakeRoll();
        due("set of no row", x.set(0, 0, 1), NULL);
        x.row(0, 0, 3);
        x.row(1, 1, 3);
        x.row(2, 2, 3);
        due("a byte 127", x.set(0, 0, 127), 127);
        due("a byte 128", x.set(0, 0, 128), -128);
        due("a byte 511", x.set(0, 2, 511), -1);
        due("a byte -129", x.set(0, 2, -129), 127);
        due("a short 32767", x.set(1, 0, 32767), 32767);
        due("a short 40000", x.set(1, 2, 40000), -25536);
        due("an int HIGH", x.set(2, 2, HIGH), HIGH);
        due("an int LOW", x.set(2, 2, LOW), LOW);
        due("set(8, 0, 0)", x.set(8, 0, 0), BAD);
        due("set(-1, -1, 0)", x.set(-1, -1, 0), BAD);
        due("set(0, -1, 0)", x.set(0, -1, 0), PLACE);
        due("set(0, 3, 0)", x.set(0, 3, 0), PLACE);
        due("set(0, HIGH, 0)", x.set(0, HIGH, 0), PLACE);
        x.row(3, 2, 0);
        due("set of an empty row", x.set(3, 0, 0), PLACE);
        due("set(4, 99, 0): missing first", x.set(4, 99, 0), NULL);
    }

    private static void copies() {
        promise = "4";
        SnakeRoll x = roll("r0;j0;j0;j0;d0;d1;d2;c0;");
        row(x, 0, 1, 2, 3, 9);
        due("copy(0, 0, 0, 1, 3)", x.copy(0, 0, 0, 1, 3), 3);
        due("the three came as they were ahead", x.who(0, 0, 0, 1, 3), 2 | 4 | 16 | 32);
        row(x, 0, 9, 1, 2, 3);
        due("copy(0, 1, 0, 0, 3)", x.copy(0, 1, 0, 0, 3), 3);
        due("and forwards", x.who(0, 0, 0, 0, 3), 2 | 4 | 16 | 32);
        x.row(1, 0, 2);
        x.row(2, 2, 2);
        due("copy(0, 4, 1, 2, 0)", x.copy(0, 4, 1, 2, 0), 0);
        due("copy(0, 5, 1, 0, 0)", x.copy(0, 5, 1, 0, 0), PLACE);
        due("copy(0, 0, 1, 3, 0)", x.copy(0, 0, 1, 3, 0), PLACE);
        due("copy(0, 0, 1, 0, 3)", x.copy(0, 0, 1, 0, 3), PLACE);
        due("copy(1, 1, 0, 0, 2)", x.copy(1, 1, 0, 0, 2), PLACE);
        due("copy(0, -1, 1, 0, 1)", x.copy(0, -1, 1, 0, 1), PLACE);
        due("copy(0, 0, 1, -1, 1)", x.copy(0, 0, 1, -1, 1), PLACE);
        due("copy(0, 0, 1, 0, -1)", x.copy(0, 0, 1, 0, -1), PLACE);
        due("copy(0, 1, 1, 1, HIGH)", x.copy(0, 1, 1, 1, HIGH), PLACE);
        due("copy(0, HIGH, 1, HIGH, HIGH)", x.copy(0, HIGH, 1, HIGH, HIGH), PLACE);
        due("lanes of two kinds", x.copy(0, 0, 2, 0, 1), STORE);
        due("lanes ahead of places", x.copy(0, 99, 2, -1, 1), STORE);
        due("missing ahead of lanes", x.copy(2, 0, 3, 0, 1), NULL);
        due("missing ahead of places", x.copy(3, -1, 0, 0, 1), NULL);
        due("copy(8, ..)", x.copy(8, 0, 0, 0, 0), BAD);
        due("copy(-1, ..)", x.copy(-1, 0, 0, 0, 0), BAD);
        due("copy(0, 0, 8, ..)", x.copy(0, 0, 8, 0, 0), BAD);
        due("copy(3, 0, -1, ..)", x.copy(3, 0, -1, 0, 0), BAD);
    }

    private static void drops() {
        promise = "5";
        SnakeRoll x = new SnakeRoll();
        x.row(4, 1, 17);
        due("drop(4)", x.drop(4), 17);
        due("drop(4) again", x.drop(4), NULL);
        due("set(4, 0, 0)", x.set(4, 0, 0), NULL);
        x.row(4, 1, 0);
        due("drop of an empty row", x.drop(4), 0);
        due("drop(8)", x.drop(8), BAD);
        due("drop(-1)", x.drop(-1), BAD);
        due("count(0)", x.count(0), 0);
    }

    private static void feeds() {
        promise = "6";
        SnakeRoll x = new SnakeRoll();
        due("feed(0)", x.feed(0), 1);
        due("feed(255)", x.feed(255), 2);
        due("feed(-1)", x.feed(-1), BAD);
        due("feed(256)", x.feed(256), BAD);
        for (int i = 2; i < 120; i++) due("feed", x.feed('r'), i + 1);
        due("feed on a full tape", x.feed('r'), FULL);
        due("feed(256) on a full tape", x.feed(256), BAD);
        due("count(7)", x.count(7), 120);
    }

    private static void schools() {
        promise = "7";
        SnakeRoll x = new SnakeRoll();
        due("the least school", read(x, "r0;j0;d0;c0;"), 1);
        due("count(7)", x.count(7), 0);
        String most = "r06;j00;j01;j03;j07;j15;j31;d00;d01;d02;d03;d04;d05;d00;d05;c63;q00;w00;s00;o00;q32;";
        due("the greatest school", read(x, most), 6);
        x.days(3);
        x.image(0);
        due("a fault: all stays", read(x, "r0;j0;d0;c0;x"), FAULT - 12);
        due("count(1)", x.count(1), 6);
        due("count(4)", x.count(4), 3);
        due("count(6)", x.count(6), 3);
        due("the tape is empty then", x.count(7), 0);
        due("a new school", read(x, "r0;j0;j1;d1;s0;c1;"), 2);
        due("subject(1)", x.subject(1), 1);
        due("count(4)", x.count(4), 0);
        due("count(6)", x.count(6), 0);
        due("undo()", x.undo(), STATE);
        due("heard(0, 0)", x.heard(0, 0), 0);
        due("pupil(1, 1)", x.pupil(1, 1), 1);
    }

    private static void fault(String text, int number, int place) {
        SnakeRoll x = new SnakeRoll();
        due("school of " + text, read(x, text), FAULT - place);
        due("fault of " + text, x.fault(), number);
    }

    private static void faults() {
        promise = "8";
        fault("", 1, 0);
        fault("j0;", 1, 0);
        fault("R0;", 1, 0);
        fault(" r0;", 1, 0);
        fault("r;", 1, 1);
        fault("r,", 1, 1);
        fault("r7;", 2, 1);
        fault("r07;", 2, 1);
        fault("r006;", 1, 1);
        fault("r0000000000", 1, 1);
        fault("r0,", 1, 2);
        fault("r0 ;", 1, 2);
        fault("r0;r0;", 1, 3);
        fault("r0;;", 1, 3);
        fault("r0;5", 1, 3);
        fault("r0;555", 1, 3);
        fault("r0;j1;", 2, 4);
        fault("r0;j0;j1;j4;", 2, 10);
        fault("r0;j0;c0;", 1, 6);
        fault("r0;j0;d1;", 2, 7);
        fault("r0;j0;d0;d0", 1, 11);
        fault("r0;j0;d0;r0;", 1, 9);
        fault("r0;j0;d0;j0;", 1, 9);
        fault("r0;j0;d0;c2;", 2, 10);
        fault("r0;j0;d0;c0;d0;", 1, 12);
        fault("r0;j0;d0;c0;j0;", 1, 12);
        String six = "r0;j0;j0;j0;j0;j0;j0;";
        fault(six + "j0;", 3, 21);
        fault(six + "j", 3, 21);
        fault(six + "d6;", 2, 22);
        fault(six + "d0;c64;", 2, 25);
        fault(six + "d0;j0;", 1, 24);
        fault("r0;j0;d0;d0;d0;d0;d0;d0;d0;d0;d0;", 3, 30);
        fault("r0;j0;d0;c0;q0;w0;s0;o0;c0;o0;", 3, 27);
        SnakeRoll x = new SnakeRoll();
        due("fault() before one", x.fault(), 0);
        read(x, "r9;");
        read(x, "r0;j0;d0;c0;");
        due("fault() stays the latest", x.fault(), 2);
    }

    private static void undos() {
        promise = "9";
        SnakeRoll x = roll("r0;j0;j0;d0;d1;c0;s2;");
        due("undo of nothing", x.undo(), STATE);
        x.days(2);
        x.change(0, 1);
        x.teach(0, 1);
        x.forget(0, 0);
        x.tell(0, 0);
        due("count(6)", x.count(6), 6);
        due("undo of a telling", x.undo(), 5);
        due("pupil(0, 0)", x.pupil(0, 0), 2);
        due("undo of a forgetting", x.undo(), 4);
        due("pupil(0, 0)", x.pupil(0, 0), 3);
        due("undo of a lesson", x.undo(), 3);
        due("lesson(0)", x.lesson(0), 0);
        due("undo of a change", x.undo(), 2);
        due("pupil(0, 1)", x.pupil(0, 1), 0);
        due("undo of a day", x.undo(), 1);
        due("count(4)", x.count(4), 1);
        due("heard(0, 1)", x.heard(0, 1), 0);
        due("pupil(0, 0)", x.pupil(0, 0), 1);
        due("undo of the first day", x.undo(), 0);
        due("pupil(0, 0)", x.pupil(0, 0), 0);
        due("undo of nothing", x.undo(), STATE);
        x.days(24);
        x.days(5);
        due("count(6)", x.count(6), 24);
        for (int i = 23; i >= 0; i--) due("undo", x.undo(), i);
        due("the oldest are forgotten", x.undo(), STATE);
        due("count(4)", x.count(4), 5);
    }

    private static void days() {
        promise = "10";
        SnakeRoll x = new SnakeRoll();
        due("days(0) without a school", x.days(0), STATE);
        read(x, "r0;j0;d0;c0;c0;c0;");
        due("days(0)", x.days(0), BAD);
        due("days(25)", x.days(25), BAD);
        due("days(-1)", x.days(-1), BAD);
        due("days(1): only in front it is heard", x.days(1), 1);
        due("days(1): who sat in front knew it as the day began", x.days(1), 2);
        due("days(1)", x.days(1), 3);
        for (int i = 0; i < 41; i++) x.days(24);
        due("count(4)", x.count(4), 987);
        due("days(13) would be 1000", x.days(13), FULL);
        due("count(4)", x.count(4), 987);
        due("count(6)", x.count(6), 24);
        due("days(25) is not as told", x.days(25), BAD);
        due("days(12)", x.days(12), 3);
        due("days(1) on the last", x.days(1), FULL);
        due("heard at most 99 times", x.heard(0, 0), 99);
        due("ahead goes on", x.ahead(2, 60, 0), 99);
        due("lesson goes on", x.lesson(60), 0);
    }

    private static void hearing() {
        promise = "10, who hears";
        SnakeRoll x = roll("r1;j0;j0;d0;c0;c0;c0;c1;c0;s0;o0;");
        due("seven are too many", x.count(1), 0);
        x = roll("r1;j0;j0;d0;c0;c0;c1;c0;s0;o0;");
        int[] hears = {1, 1, 0, 1, 1, 1};
        for (int p = 0; p < 6; p++) due("pupil(" + p + ", 3)", x.pupil(p, 3), hears[p]);
        x.days(1);
        for (int p = 0; p < 6; p++) due("heard(" + p + ", 0)", x.heard(p, 0), hears[p]);
        x = roll("r0;j0;j0;d0;c0;c2;c0;");
        due("the one in front knows another thing", x.pupil(2, 3), 0);
    }

    private static void kindsLearn() {
        promise = "10, how kinds learn";
        SnakeRoll x = roll("r6;j0;j1;j3;j0;j0;d2;c0;q0;w0;s0;o0;q3;");
        x.days(1);
        int[] first = {0, 0, 0, 0, 0, 7};
        for (int p = 0; p < 6; p++) due("a lesson that needs two, pupil " + p, x.pupil(p, 0), first[p]);
        x.days(1);
        int[] second = {0, 0, 0, 4, 4, 7};
        for (int p = 0; p < 6; p++) due("again, pupil " + p, x.pupil(p, 0), second[p]);
        x = roll("r6;j0;j1;j3;j0;j12;d0;c0;q0;w0;q8;q1;q9;");
        x.days(1);
        int[] onwards = {1, 7, 0, 31, 7, 31};
        for (int p = 0; p < 6; p++) due("onwards, pupil " + p, x.pupil(p, 0), onwards[p]);
        x.days(1);
        due("a slow one, the second time", x.pupil(2, 0), 1);
        x = roll("r6;j0;j1;j0;d2;q1;");
        x.days(1);
        due("a quick one goes on from the lesson only", x.pupil(0, 0), 5);
        x = roll("r6;j0;j1;j2;d1;q3;q1;q2;");
        x.days(1);
        due("a quick one that knew it", x.pupil(0, 0), 7);
        due("a quick one that learns it", x.pupil(1, 0), 7);
        due("a quick one that cannot grasp it", x.pupil(2, 0), 6);
        x = roll("r6;j0;j0;j0;j0;j0;j0;d5;o31;o15;o47;o7;s31;");
        x.days(1);
        due("an old one of five learns, and forgets", x.pupil(0, 0), 62);
        due("an old one of four learns, and forgets", x.pupil(1, 0), 46);
        due("an old one that knew it forgets", x.pupil(2, 0), 46);
        due("an old one of four stays so", x.pupil(3, 0), 39);
        due("a snake forgets nothing", x.pupil(4, 0), 63);
        x = roll("r6;j0;j0;j0;j0;j0;j31;d5;o31;");
        x.days(1);
        due("an old one that did not learn it forgets, too", x.pupil(0, 0), 30);
        x.days(1);
        due("and then no more", x.pupil(0, 0), 30);
    }

    private static void changes() {
        promise = "11";
        SnakeRoll x = new SnakeRoll();
        due("without a school", x.change(0, 1), BAD);
        read(x, "r0;j0;d0;c0;c0;c0;");
        due("change(0, 2)", x.change(0, 2), 2);
        due("pupil(2, 1)", x.pupil(2, 1), 0);
        due("pupil(1, 1)", x.pupil(1, 1), 1);
        due("change(0, 1)", x.change(0, 1), 1);
        due("pupil(1, 1)", x.pupil(1, 1), 2);
        due("change(1, 1)", x.change(1, 1), BAD);
        due("change(0, 3)", x.change(0, 3), BAD);
        due("change(-1, 0)", x.change(-1, 0), BAD);
        due("count(6)", x.count(6), 2);
        x.days(1);
        due("who sits in front learns", x.pupil(2, 0), 1);
        due("who does not, does not", x.pupil(0, 0), 0);
    }

    private static void teaches() {
        promise = "12";
        SnakeRoll x = new SnakeRoll();
        due("without a school", x.teach(0, 0), BAD);
        read(x, "r0;j0;j0;d0;d1;c0;");
        due("teach(1, 0)", x.teach(1, 0), 1);
        due("teach(1, 1)", x.teach(1, 1), 0);
        due("teach(0, 1)", x.teach(0, 1), 0);
        due("teach(2, 0)", x.teach(2, 0), BAD);
        due("teach(-1, 0)", x.teach(-1, 0), BAD);
        due("teach(0, 2)", x.teach(0, 2), BAD);
        due("teach(0, -1)", x.teach(0, -1), BAD);
        due("count(6)", x.count(6), 3);
        x.days(1);
        due("pupil(0, 0)", x.pupil(0, 0), 2);
    }

    private static void forgetsAndTells() {
        promise = "13, 14";
        SnakeRoll x = new SnakeRoll();
        due("forget without a school", x.forget(0, 0), BAD);
        due("tell without a school", x.tell(0, 0), BAD);
        read(x, "r0;j0;j1;d0;c3;c0;");
        due("forget(0, 0)", x.forget(0, 0), 2);
        due("forget(0, 0) again", x.forget(0, 0), STATE);
        due("forget(2, 0)", x.forget(2, 0), BAD);
        due("forget(-1, 0)", x.forget(-1, 0), BAD);
        due("forget(0, 2)", x.forget(0, 2), BAD);
        due("forget(0, -1)", x.forget(0, -1), BAD);
        due("tell(1, 1), that it cannot grasp", x.tell(1, 1), 2);
        due("tell(1, 1) again", x.tell(1, 1), STATE);
        due("tell(1, 0)", x.tell(1, 0), 3);
        due("tell(2, 0)", x.tell(2, 0), BAD);
        due("tell(-1, 0)", x.tell(-1, 0), BAD);
        due("tell(1, 2)", x.tell(1, 2), BAD);
        due("tell(1, -1)", x.tell(1, -1), BAD);
        due("count(6)", x.count(6), 3);
    }

    private static void pupils() {
        promise = "15";
        SnakeRoll x = roll("r0;j0;j1;j0;d2;d1;c1;c0;c4;c0;");
        due("pupil(0, 0)", x.pupil(0, 0), 1);
        due("pupil(2, 1)", x.pupil(2, 1), 2);
        due("pupil(2, 2)", x.pupil(2, 2), 1);
        due("pupil(0, 3)", x.pupil(0, 3), 1);
        due("pupil(1, 3)", x.pupil(1, 3), 0);
        due("pupil(3, 3)", x.pupil(3, 3), 1);
        due("pupil(0, 4)", x.pupil(0, 4), 7);
        due("pupil(1, 4)", x.pupil(1, 4), 5);
        due("pupil(0, 5)", x.pupil(0, 5), BAD);
        due("pupil(0, -1)", x.pupil(0, -1), BAD);
        due("pupil(4, 0)", x.pupil(4, 0), BAD);
        due("pupil(-1, 0)", x.pupil(-1, 0), BAD);
        x.days(1);
        due("of this day", x.pupil(3, 3), 0);
    }

    private static void heardAndSubjects() {
        promise = "16, 17";
        SnakeRoll x = roll("r0;j0;j1;j3;d2;d2;d0;c0;c0;s0;");
        x.days(4);
        due("heard(0, 2)", x.heard(0, 2), 3);
        due("heard(0, 0)", x.heard(0, 0), 1);
        due("heard(0, 1)", x.heard(0, 1), 0);
        due("heard(1, 2)", x.heard(1, 2), 0);
        due("heard(2, 2)", x.heard(2, 2), 3);
        due("heard(3, 0)", x.heard(3, 0), BAD);
        due("heard(0, 3)", x.heard(0, 3), BAD);
        due("heard(0, -1)", x.heard(0, -1), BAD);
        due("heard(-1, 0)", x.heard(-1, 0), BAD);
        due("subject(2)", x.subject(2), 3);
        due("subject(3)", x.subject(3), BAD);
        due("subject(-1)", x.subject(-1), BAD);
    }

    private static void lessons() {
        promise = "18";
        SnakeRoll x = new SnakeRoll();
        due("lesson(61) without a school", x.lesson(61), STATE);
        read(x, "r0;j0;j0;j0;d2;d1;d0;c0;");
        x.days(1);
        due("lesson(0)", x.lesson(0), 1);
        due("lesson(1)", x.lesson(1), 0);
        due("lesson(2)", x.lesson(2), 2);
        due("lesson(60)", x.lesson(60), 1);
        due("lesson(61)", x.lesson(61), BAD);
        due("lesson(-1)", x.lesson(-1), BAD);
    }

    private static void ahead() {
        promise = "19";
        SnakeRoll x = roll("r0;j0;j0;d0;d1;c0;c0;");
        due("ahead(1, 0, -1)", x.ahead(1, 0, -1), 0);
        due("ahead(0, 1, -1)", x.ahead(0, 1, -1), 1);
        due("ahead(1, 2, -1)", x.ahead(1, 2, -1), 0);
        due("ahead(1, 4, -1)", x.ahead(1, 4, -1), 3);
        due("ahead(0, 60, 1)", x.ahead(0, 60, 1), 30);
        due("ahead(1, 60, 0)", x.ahead(1, 60, 0), 29);
        due("nothing changes", x.count(4) + x.count(5) + x.count(6) + x.heard(0, 0), 0);
        due("ahead(0, 61, -1)", x.ahead(0, 61, -1), BAD);
        due("ahead(0, -1, -1)", x.ahead(0, -1, -1), BAD);
        due("ahead(0, 1, 2)", x.ahead(0, 1, 2), BAD);
        due("ahead(0, 1, -2)", x.ahead(0, 1, -2), BAD);
        due("ahead(2, 1, 0)", x.ahead(2, 1, 0), BAD);
        due("ahead(-1, 1, 0)", x.ahead(-1, 1, 0), BAD);
    }

    private static void when() {
        promise = "20";
        SnakeRoll x = roll("r0;j0;j1;j0;d1;d0;c0;c1;s0;c0;");
        due("when(1, 0)", x.when(1, 0), 0);
        due("when(0, 0)", x.when(0, 0), 2);
        due("when(0, 1)", x.when(0, 1), 3);
        due("when(2, 1)", x.when(2, 1), 1);
        due("when(0, 2)", x.when(0, 2), NONE);
        due("when(4, 0)", x.when(4, 0), BAD);
        due("when(0, 3)", x.when(0, 3), BAD);
        due("when(-1, 0)", x.when(-1, 0), BAD);
        due("when(0, -1)", x.when(0, -1), BAD);
        due("count(4)", x.count(4), 0);
        x = roll("r0;j0;d0;w0;");
        due("a slow one", x.when(0, 0), 2);
        // Each slow one learns 0 and then 1 twelve days after the one in front of it.
        x = roll("r0;j0;j1;d1;d1;d1;d1;d0;d1;w0;w0;w0;w0;w0;");
        due("behind 48 days", x.when(3, 1), 48);
        due("behind 60 days", x.when(4, 1), 60);
        x = roll("r0;j0;j1;d1;d1;d1;d1;d1;d0;w0;w0;w0;w0;w0;");
        due("behind 49 days", x.when(3, 1), 49);
        due("61 days are too many", x.when(4, 1), NONE);
    }

    private static void all() {
        promise = "21";
        SnakeRoll x = new SnakeRoll();
        due("all(2) without a school", x.all(2), STATE);
        read(x, "r0;j0;j0;j0;j0;d0;c3;c6;c2;");
        due("all(0)", x.all(0), 2);
        due("all(1)", x.all(1), 7);
        due("all(2)", x.all(2), BAD);
        due("all(-1)", x.all(-1), BAD);
    }

    private static void followsAndLacks() {
        promise = "22, 23";
        SnakeRoll x = roll("r0;j0;j1;j2;j0;j8;d0;c0;c4;s16;");
        due("follows(0)", x.follows(0), 31);
        due("follows(3)", x.follows(3), BAD);
        due("follows(-1)", x.follows(-1), BAD);
        due("lacks(0, 2)", x.lacks(0, 2), 7);
        due("lacks(1, 2), known itself", x.lacks(1, 2), 3);
        due("lacks(0, 4)", x.lacks(0, 4), 24);
        due("lacks(2, 4)", x.lacks(2, 4), 8);
        due("lacks(3, 0)", x.lacks(3, 0), BAD);
        due("lacks(-1, 0)", x.lacks(-1, 0), BAD);
        due("lacks(0, 5)", x.lacks(0, 5), BAD);
        due("lacks(0, -1)", x.lacks(0, -1), BAD);
        // Known in the middle: what it needs is lacked all the same.
        x = roll("r0;j0;j1;j2;d0;c2;");
        due("lacks(0, 2) past what is known", x.lacks(0, 2), 5);
        due("shortest(0, 2, -1) past what is known", x.shortest(0, 2, -1), 1);
        due("shortest(0, 2, 0)", x.shortest(0, 2, 0), 2);
    }

    private static void shortest() {
        promise = "24";
        SnakeRoll x = roll("r0;j0;j0;j2;j0;j5;d0;c0;c4;c16;");
        due("how many", x.shortest(0, 4, -1), 4);
        int[] row = {0, 1, 2, 4, NONE, NONE};
        for (int k = 0; k < 6; k++) due("the k-th, " + k, x.shortest(0, 4, k), row[k]);
        due("with 2 known", x.shortest(1, 4, -1), 2);
        due("its first", x.shortest(1, 4, 0), 0);
        due("its second", x.shortest(1, 4, 1), 4);
        due("known", x.shortest(2, 4, -1), 0);
        due("known, its first", x.shortest(2, 4, 0), NONE);
        due("k HIGH", x.shortest(0, 4, HIGH), NONE);
        due("k -2", x.shortest(0, 4, -2), BAD);
        due("no pupil", x.shortest(3, 4, -1), BAD);
        due("pupil -1", x.shortest(-1, 4, -1), BAD);
        due("no subject", x.shortest(0, 5, -1), BAD);
        due("subject -1", x.shortest(0, -1, -1), BAD);
    }

    private static void seating() {
        promise = "25";
        SnakeRoll x = new SnakeRoll();
        due("seating(0, 9) without a school", x.seating(0, 9), STATE);
        // The slow one hears it twice only behind one who knows it; the snake hears it anywhere.
        read(x, "r0;j0;d0;s0;w0;c1;");
        due("seating(2, -1)", x.seating(2, -1), 3);
        due("seating(2, 0)", x.seating(2, 0), 0);
        due("seating(2, 1)", x.seating(2, 1), 2);
        due("seating(2, 2)", x.seating(2, 2), 1);
        due("seating(1, -1)", x.seating(1, -1), 2);
        due("seating(1, 0), the first of several", x.seating(1, 0), 0);
        due("seating(1, 1)", x.seating(1, 1), 1);
        due("seating(12, -1)", x.seating(12, -1), 3);
        due("seating(0, 0)", x.seating(0, 0), BAD);
        due("seating(13, 0)", x.seating(13, 0), BAD);
        due("seating(1, 3)", x.seating(1, 3), BAD);
        due("seating(1, -2)", x.seating(1, -2), BAD);
        due("nothing changes", x.pupil(2, 1), 2);
    }

    private static void tables() {
        promise = "26";
        SnakeRoll x = new SnakeRoll();
        due("table(0, 2) without a school", x.table(0, 2), STATE);
        read(x, "r0;j0;j1;j3;d2;d1;d0;c0;");
        due("table(3, 0)", x.table(3, 0), 2);
        due("table(3, 1)", x.table(3, 1), 3);
        due("table(1, 0)", x.table(1, 0), 2);
        due("table(1, 1)", x.table(1, 1), 1);
        due("table(2, 0): 2 1 0 to 1 2 0 gives 0, to 0 1 2 gives 2", x.table(2, 0), 2);
        due("table(30, 0): no more to come", x.table(30, 0), NONE);
        due("table(30, 1)", x.table(30, 1), NONE);
        due("table(0, 0)", x.table(0, 0), BAD);
        due("table(31, 0)", x.table(31, 0), BAD);
        due("table(1, 2)", x.table(1, 2), BAD);
        due("table(1, -1)", x.table(1, -1), BAD);
        due("nothing changes", x.lesson(0), 2);
        x.days(1);
        due("the lessons keep their places of the day", x.table(2, 0), 12);
        x.days(1);
        due("seating begins with this day", x.seating(1, -1), 1);
    }

    private static void questions() {
        promise = "27";
        SnakeRoll x = new SnakeRoll();
        due("questions(2) without a school", x.questions(2), STATE);
        read(x, "r0;j0;j0;j0;d0;c0;c3;c7;c3;");
        due("questions(0)", x.questions(0), 2);
        due("questions(1), the least", x.questions(1), 5);
        due("questions(2)", x.questions(2), BAD);
        due("questions(-1)", x.questions(-1), BAD);
        read(x, "r0;j0;j0;d0;c2;c2;");
        due("all the same", x.questions(0), 0);
        due("which", x.questions(1), 0);
        read(x, "r0;j0;j0;j0;d0;c1;c2;c4;c0;");
        due("two tell three apart, not these four", x.questions(0), 3);
    }

    private static void topAndFellows() {
        promise = "28, 29";
        SnakeRoll x = new SnakeRoll();
        due("top(2) without a school", x.top(2), STATE);
        due("fellows(0) without a school", x.fellows(0), BAD);
        read(x, "r0;j0;j0;j0;d0;c1;c6;c3;c6;");
        due("top(0)", x.top(0), 1);
        due("top(1)", x.top(1), 2);
        due("top(2)", x.top(2), BAD);
        due("top(-1)", x.top(-1), BAD);
        due("fellows(1)", x.fellows(1), 8);
        due("fellows(2)", x.fellows(2), 0);
        due("fellows(4)", x.fellows(4), BAD);
        due("fellows(-1)", x.fellows(-1), BAD);
    }

    private static void who() {
        promise = "30";
        SnakeRoll x = new SnakeRoll();
        x.row(0, 0, 3);
        due("without a school", x.who(0, 0, 0, 0, 1), BAD);
        read(x, "r0;j0;j0;d0;d1;c0;c0;c0;");
        row(x, 0, 9, 1, 2, 2);
        due("kinds in seat 0", x.who(0, 0, 0, 1, 2), 2 | 4 | 16 | 32);
        due("seats", x.who(0, 1, 0, 1, 2), 1);
        due("snakes in seat 2", x.who(2, 0, 0, 1, 2), 16 | 32);
        due("seats of 2", x.who(2, 1, 0, 1, 2), 1);
        due("9 fits nothing", x.who(0, 0, 0, 0, 1), 0);
        row(x, 1, 0, 0, 1, 2);
        due("seats of 1: behind one who learns", x.who(1, 1, 1, 0, 4), 2);
        due("seats of 0: who is there comes to its own", x.who(0, 1, 1, 0, 4), 2);
        due("which = 2", x.who(0, 2, 0, 0, 1), BAD);
        due("which = -1", x.who(0, -1, 0, 0, 1), BAD);
        due("no pupil", x.who(3, 0, 0, 0, 1), BAD);
        due("no row", x.who(0, 0, 8, 0, 1), BAD);
        due("pupil -1", x.who(-1, 0, 0, 0, 1), BAD);
        due("row -1", x.who(0, 0, -1, 0, 1), BAD);
        due("n = 0", x.who(0, 0, 0, 0, 0), BAD);
        due("n = 13", x.who(0, 0, 5, 0, 13), BAD);
        due("missing", x.who(0, 0, 5, 0, 12), NULL);
        due("i = -1", x.who(0, 0, 0, -1, 1), PLACE);
        due("beyond the end", x.who(0, 0, 0, 2, 3), PLACE);
        due("i = HIGH", x.who(0, 0, 0, HIGH, 1), PLACE);
        due("nothing changes", x.kind(0) + x.pupil(0, 1) + x.count(4), 1);
    }

    private static void what() {
        promise = "31";
        SnakeRoll x = new SnakeRoll();
        x.row(0, 0, 3);
        due("without a school", x.what(-1, 0, 0, 0, 1), BAD);
        read(x, "r0;j0;j0;j1;d0;d1;c0;c0;");
        row(x, 0, 9, 1, 2);
        due("subjects of lesson 1", x.what(1, 0, 0, 1, 2), 6);
        due("subjects of lesson 0", x.what(0, 0, 0, 1, 2), 1);
        due("reaches by pupil 0", x.what(-1, 0, 0, 1, 2), 127);
        due("reaches by pupil 1", x.what(-1, 1, 0, 1, 2), 126);
        due("9 fits nothing", x.what(0, 0, 0, 0, 1), 0);
        due("lesson 2", x.what(2, 0, 0, 0, 1), BAD);
        due("lesson -2", x.what(-2, 0, 0, 0, 1), BAD);
        due("no pupil", x.what(0, 2, 0, 0, 1), BAD);
        due("no row", x.what(0, 0, -1, 0, 1), BAD);
        due("pupil -1", x.what(0, -1, 0, 0, 1), BAD);
        due("row 8", x.what(0, 0, 8, 0, 1), BAD);
        due("n = 0", x.what(0, 0, 0, 0, 0), BAD);
        due("n = 13", x.what(0, 0, 0, 0, 13), BAD);
        due("missing", x.what(0, 0, 7, 99, 1), NULL);
        due("n = 12", x.what(0, 0, 7, 0, 12), NULL);
        due("beyond the end", x.what(0, 0, 0, 3, 1), PLACE);
        due("i = LOW", x.what(0, 0, 0, LOW, 1), PLACE);
        due("nothing changes", x.lesson(0) + x.count(4), 0);
    }

    private static void thought() {
        promise = "32";
        SnakeRoll x = new SnakeRoll();
        due("without a school", x.thought(0, 0, 0, 0, 0), BAD);
        read(x, "r0;j0;j1;d0;d1;c0;o1;w0;");
        due("above", x.thought(0, 0, 2, 4, 0), 3);
        due("below: day 0 alone tells", x.thought(0, 0, 2, 4, 1), 5);
        due("both days", x.thought(0, 1, 2, 4, 0), 9);
        due("both days, below", x.thought(0, 1, 2, 4, 1), 25);
        due("day 1 heard, and day 0 or no", x.thought(0, 1, 4, 5, 0), 1);
        due("0 is 0 by 1", x.thought(0, 1, 1, 3, 0), 0);
        due("0 is 0 by 1", x.thought(0, 1, 1, 3, 1), 1);
        due("sure", x.thought(1, 0, 8, 10, 0), 1);
        due("sure, below", x.thought(1, 0, 8, 10, 1), 1);
        due("p = 10", x.thought(0, 0, 8, 10, 0), 0);
        due("p = 0", x.thought(0, 0, 8, 0, 0), 1);
        due("n = 0", x.thought(1, 0, 0, 5, 0), 1);
        due("once in eight, above", x.thought(0, 0, 8, 9, 0), 3439);
        due("once in eight, below", x.thought(0, 0, 8, 9, 1), 10000);
        due("n = 9", x.thought(0, 0, 9, 0, 0), BAD);
        due("n = -1", x.thought(0, 0, -1, 0, 0), BAD);
        due("p = 11", x.thought(0, 0, 1, 11, 0), BAD);
        due("p = -1", x.thought(0, 0, 1, -1, 0), BAD);
        due("p = 11, n = 0", x.thought(0, 0, 0, 11, 0), BAD);
        due("p = -1, n = 0", x.thought(0, 0, 0, -1, 0), BAD);
        due("what = -1", x.thought(0, 0, 1, 1, -1), BAD);
        due("what = 2", x.thought(0, 0, 1, 1, 2), BAD);
        due("no pupil", x.thought(3, 0, 1, 1, 0), BAD);
        due("no subject", x.thought(0, 2, 1, 1, 0), BAD);
        due("pupil -1", x.thought(-1, 0, 1, 1, 0), BAD);
        due("subject -1", x.thought(0, -1, 1, 1, 0), BAD);
        due("nothing changes", x.count(4) + x.pupil(0, 0), 0);
    }

    private static void drawn() {
        promise = "33";
        SnakeRoll x = new SnakeRoll();
        due("drawn(-1, 0, 2) without a school", x.drawn(-1, 0, 2), STATE);
        read(x, "r6;j0;j0;j0;d0;c0;c1;");
        due("drawn(0, 1, 0)", x.drawn(0, 1, 0), 1);
        due("drawn(0, 1, 1)", x.drawn(0, 1, 1), 0);
        // X is 16807, that leaves 1 by 3, 3 by 4: a day alone.
        due("drawn(1, 1, 0)", x.drawn(1, 1, 0), 2);
        due("drawn(1, 1, 1)", x.drawn(1, 1, 1), 1);
        // X is 67228, 1 by 3, 0 by 4: pupil 0 would forget 1, that it does not know.
        due("drawn(1, 4, 0)", x.drawn(1, 4, 0), 2);
        // X is 50421, 0 by 3, 1 by 4: of three subjects it leaves 0, lesson 0 has that as it had.
        due("drawn(1, 3, 1)", x.drawn(1, 3, 1), 1);
        read(x, "r6;j0;j0;j0;j0;d0;c0;c1;");
        // Of four subjects 50421 leaves 1: lesson 0 has 1.
        due("a lesson drawn", x.drawn(1, 3, 1), 2);
        due("how much", x.drawn(1, 3, 0), 3);
        read(x, "r6;j0;j0;d1;c1;c1;");
        // X is 67228: pupil 0 forgets 0, then all learn 1.
        due("a thing forgotten", x.drawn(1, 4, 0), 3);
        due("that all know", x.drawn(1, 4, 1), 2);
        due("nothing changes", x.count(5) + x.count(4), 2);
        read(x, "r0;j0;d0;c0;c0;c1;");
        // X is 134456, 2 by 3, 0 by 4: pupil 2 forgets 0, and does not hear it then.
        due("the one thing forgotten", x.drawn(1, 8, 0), 1);
        due("drawn(60, 999999, 0)", x.drawn(60, 999999, 0) >= 0 ? 1 : 0, 1);
        due("drawn(61, 1, 0)", x.drawn(61, 1, 0), BAD);
        due("drawn(-1, 1, 0)", x.drawn(-1, 1, 0), BAD);
        due("drawn(1, 0, 0)", x.drawn(1, 0, 0), BAD);
        due("drawn(1, 1000000, 0)", x.drawn(1, 1000000, 0), BAD);
        due("drawn(1, 1, 2)", x.drawn(1, 1, 2), BAD);
        due("drawn(1, 1, -1)", x.drawn(1, 1, -1), BAD);
    }

    private static void images() {
        promise = "34, 35";
        SnakeRoll x = new SnakeRoll();
        due("image(2)", x.image(2), BAD);
        due("image(-1)", x.image(-1), BAD);
        due("image(0) without a school", x.image(0), STATE);
        due("restore(2)", x.restore(2), BAD);
        due("restore(0)", x.restore(0), STATE);
        read(x, "r0;j0;d0;c0;c0;");
        x.days(1);
        due("image(0)", x.image(0), 1);
        due("count(6), an image is no act", x.count(6), 1);
        x.days(1);
        x.change(0, 1);
        due("image(1)", x.image(1), 1);
        read(x, "r3;j0;j1;d1;s0;");
        due("restore(0)", x.restore(0), 1);
        due("count(1)", x.count(1), 2);
        due("count(2)", x.count(2), 1);
        due("count(4)", x.count(4), 1);
        due("count(5)", x.count(5), 1);
        due("heard(0, 0)", x.heard(0, 0), 1);
        due("pupil(1, 1)", x.pupil(1, 1), 1);
        due("kind(0)", x.kind(0), 1);
        due("undo()", x.undo(), STATE);
        x.days(5);
        due("restore(0) again", x.restore(0), 1);
        due("count(4), the image is kept", x.count(4), 1);
        due("restore(1)", x.restore(1), 1);
        due("pupil(1, 1)", x.pupil(1, 1), 0);
        due("restore(-1)", x.restore(-1), BAD);
    }

    private static void kindsAndAs() {
        promise = "36, 37";
        SnakeRoll x = new SnakeRoll();
        due("kind(0) without a school", x.kind(0), BAD);
        due("as(0, 0) without a school", x.as(0, 0), BAD);
        read(x, "r0;j0;d0;c0;q0;w0;s0;o0;");
        int[] is = {1 | 2, 1 | 2 | 4, 1 | 2 | 8, 1 | 16, 1 | 16 | 32};
        for (int p = 0; p < 5; p++) {
            due("kind(" + p + ")", x.kind(p), p + 1);
            for (int k = 0; k <= 5; k++) due("as(" + p + ", " + k + ")", x.as(p, k), (is[p] >> k & 1) != 0 ? p : KIND);
        }
        due("kind(5)", x.kind(5), BAD);
        due("kind(-1)", x.kind(-1), BAD);
        due("as(0, 6)", x.as(0, 6), BAD);
        due("as(0, -1)", x.as(0, -1), BAD);
        due("as(5, 0)", x.as(5, 0), BAD);
        due("as(-1, 0)", x.as(-1, 0), BAD);
    }

    private static void ask(SnakeRoll x, int one, int what, int answer, int... bodies) {
        due("ask(" + one + ", " + what + ")", x.ask(one, what), answer);
        for (int i = 0; i < bodies.length; i++) due("trace(" + i + ")", x.trace(i), bodies[i]);
        due("trace(" + bodies.length + ")", x.trace(bodies.length), NONE);
    }

    private static void asks() {
        promise = "38, 39";
        SnakeRoll x = new SnakeRoll();
        due("ask(0, 0) without a school", x.ask(0, 0), BAD);
        read(x, "r0;j0;j0;j0;d0;c1;c3;q3;w7;s7;o1;");
        ask(x, 1, 0, 2 + 2, 11, 10, 21, 20);
        ask(x, 1, 1, 2, 21, 20);
        ask(x, 2, 0, -(2 + 8), 12, 11, 10, 24, 21, 20);
        ask(x, 2, 1, 8, 24, 21, 20);
        ask(x, 3, 0, 3 + 6 - 1000, 11, 10, 22, 21, 20);
        ask(x, 3, 1, 6 - 1000, 22, 21, 20);
        ask(x, 4, 0, 3 - 100, 13, 10);
        ask(x, 4, 1, 4 + 97, 23, 20, 13, 10);
        ask(x, 5, 0, -198, 14, 13, 10);
        ask(x, 5, 1, 5 + 198, 23, 20, 14, 13, 10);
        due("ask(5, 2)", x.ask(5, 2), BAD);
        due("ask(5, -1)", x.ask(5, -1), BAD);
        due("ask(6, 0)", x.ask(6, 0), BAD);
        due("ask(-1, 0)", x.ask(-1, 0), BAD);
        due("a refused ask leaves the trace", x.trace(4), 10);
        due("trace(-1)", x.trace(-1), NONE);
        due("trace(HIGH)", x.trace(HIGH), NONE);
        x.change(1, 5);
        ask(x, 1, 1, 6, 21, 20);
    }

    private static void counts() {
        promise = "40";
        SnakeRoll x = roll("r0;j0;j0;j0;d0;d1;c1;c0;c4;c0;");
        x.row(0, 0, 1);
        x.row(7, 0, 1);
        x.days(3);
        feed(x, "r1");
        // Lesson 0 goes back a seat each time, lesson 1 is learned in front.
        int[] counts = {2, 4, 3, 2, 3, 5, 3, 2};
        for (int what = 0; what < 8; what++) due("count(" + what + ")", x.count(what), counts[what]);
        due("count(8)", x.count(8), BAD);
        due("count(-1)", x.count(-1), BAD);
    }

    private static void statuses() {
        promise = "41";
        SnakeRoll x = roll("r0;j0;d0;c0;");
        x.row(0, 0, -1);
        due("SIZE", x.status(), 4);
        x.row(9, 0, 1);
        due("BAD leaves it", x.status(), 4);
        x.row(0, 0, 1);
        due("a row has none", x.status(), 0);
        x.set(0, 1, 1);
        due("PLACE", x.status(), 2);
        x.days(1);
        x.undo();
        x.undo();
        x.feed('r');
        x.kind(0);
        due("others leave it", x.status(), 2);
        x.set(0, 0, 1);
        due("an item has none", x.status(), 0);
        x.as(0, 5);
        due("KIND", x.status(), 3);
        x.as(0, 6);
        due("BAD leaves it", x.status(), 3);
        x.as(0, 0);
        due("as has none", x.status(), 0);
        x.drop(1);
        due("NULL", x.status(), 1);
        x.who(0, 0, 0, 0, 1);
        due("who has none", x.status(), 0);
        x.who(0, 0, 1, 0, 1);
        due("who NULL", x.status(), 1);
        x.what(-1, 0, 0, 0, 1);
        due("what has none", x.status(), 0);
        x.what(-1, 0, 0, 1, 1);
        due("what PLACE", x.status(), 2);
        x.what(-1, 5, 0, 0, 1);
        due("what BAD leaves it", x.status(), 2);
        x.row(1, 1, 1);
        x.copy(0, 0, 1, 0, 1);
        due("STORE", x.status(), 5);
        x.copy(0, 0, 0, 0, 1);
        due("copy has none", x.status(), 0);
        x.copy(0, 0, 2, 0, 1);
        x.drop(1);
        due("drop has none", x.status(), 0);
    }

    // ---- what a call leaves as it was, answered or refused

    /** A school on day 1, with a finding of STORE, an image, rows of two lanes. */
    private static SnakeRoll amid() {
        SnakeRoll x = roll("r0;j0;j1;d0;d1;c0;q2;s3;");
        x.days(1);
        x.image(0);
        x.row(0, 0, 2);
        x.row(1, 1, 2);
        x.copy(0, 0, 1, 0, 1);
        return x;
    }

    private static void leavesDay(SnakeRoll x, String call, long answer) {
        due("the day behind " + call + ", that answered " + answer, x.count(4), 1);
    }

    private static void leaves(SnakeRoll x, String call, long answer) {
        leavesDay(x, call, answer);
        due("status() behind " + call + ", that answered " + answer, x.status(), 5);
    }

    private static void leftByRows() {
        promise = "2 to 5, 30, 31, 37, 41";
        SnakeRoll x = amid();
        leaves(x, "row(8, 0, 1)", x.row(8, 0, 1));
        leaves(x, "set(8, 0, 1)", x.set(8, 0, 1));
        leaves(x, "copy(8, 0, 0, 0, 1)", x.copy(8, 0, 0, 0, 1));
        leaves(x, "drop(8)", x.drop(8));
        leaves(x, "who(3, 0, 0, 0, 1)", x.who(3, 0, 0, 0, 1));
        leaves(x, "what(2, 0, 0, 0, 1)", x.what(2, 0, 0, 0, 1));
        leaves(x, "as(3, 0)", x.as(3, 0));
        leavesDay(x, "row(2, 0, -1)", x.row(2, 0, -1));
        leavesDay(x, "row(2, 0, 1)", x.row(2, 0, 1));
        leavesDay(x, "set(2, 1, 1)", x.set(2, 1, 1));
        leavesDay(x, "set(2, 0, 1)", x.set(2, 0, 1));
        leavesDay(x, "copy(0, 0, 1, 0, 1)", x.copy(0, 0, 1, 0, 1));
        leavesDay(x, "copy(0, 0, 2, 0, 1)", x.copy(0, 0, 2, 0, 1));
        leavesDay(x, "drop(7)", x.drop(7));
        leavesDay(x, "drop(2)", x.drop(2));
        leavesDay(x, "who(0, 0, 2, 0, 1)", x.who(0, 0, 2, 0, 1));
        leavesDay(x, "who(0, 0, 0, 0, 1)", x.who(0, 0, 0, 0, 1));
        leavesDay(x, "what(0, 0, 2, 0, 1)", x.what(0, 0, 2, 0, 1));
        leavesDay(x, "what(0, 0, 0, 0, 1)", x.what(0, 0, 0, 0, 1));
        leavesDay(x, "as(0, 5)", x.as(0, 5));
        leavesDay(x, "as(0, 1)", x.as(0, 1));
    }

    private static void leftByTold() {
        promise = "6 to 8";
        SnakeRoll x = amid();
        leaves(x, "feed('r')", x.feed('r'));
        leaves(x, "feed(256)", x.feed(256));
        leaves(x, "school() with a fault", x.school());
        leaves(x, "fault()", x.fault());
        read(x, "r0;j0;d0;c0;");
        due("status() behind school()", x.status(), 5);
    }

    private static void leftByDone() {
        promise = "9 to 18";
        SnakeRoll x = amid();
        leaves(x, "days(0)", x.days(0));
        leaves(x, "change(0, 1)", x.change(0, 1));
        leaves(x, "change(0, 0)", x.change(0, 0));
        leaves(x, "teach(0, 1)", x.teach(0, 1));
        leaves(x, "teach(2, 1)", x.teach(2, 1));
        leaves(x, "forget(2, 0)", x.forget(2, 0));
        leaves(x, "forget(2, 0) again", x.forget(2, 0));
        leaves(x, "forget(3, 0)", x.forget(3, 0));
        leaves(x, "tell(2, 0)", x.tell(2, 0));
        leaves(x, "tell(2, 0) again", x.tell(2, 0));
        leaves(x, "tell(3, 0)", x.tell(3, 0));
        leaves(x, "undo()", x.undo());
        leaves(x, "pupil(0, 0)", x.pupil(0, 0));
        leaves(x, "pupil(0, 5)", x.pupil(0, 5));
        leaves(x, "heard(0, 0)", x.heard(0, 0));
        leaves(x, "heard(0, 2)", x.heard(0, 2));
        leaves(x, "subject(0)", x.subject(0));
        leaves(x, "subject(2)", x.subject(2));
        leaves(x, "lesson(0)", x.lesson(0));
        leaves(x, "lesson(61)", x.lesson(61));
        x.days(1);
        due("status() behind days(1)", x.status(), 5);
        x.restore(0);
        leaves(x, "undo() of nothing", x.undo());
    }

    private static void leftByForetold() {
        promise = "19 to 35";
        SnakeRoll x = amid();
        leaves(x, "ahead(0, 2, -1)", x.ahead(0, 2, -1));
        leaves(x, "ahead(0, 61, -1)", x.ahead(0, 61, -1));
        leaves(x, "when(0, 1)", x.when(0, 1));
        leaves(x, "when(0, 2)", x.when(0, 2));
        leaves(x, "all(0)", x.all(0));
        leaves(x, "all(2)", x.all(2));
        leaves(x, "follows(0)", x.follows(0));
        leaves(x, "follows(3)", x.follows(3));
        leaves(x, "lacks(0, 1)", x.lacks(0, 1));
        leaves(x, "lacks(0, 2)", x.lacks(0, 2));
        leaves(x, "shortest(0, 1, -1)", x.shortest(0, 1, -1));
        leaves(x, "shortest(0, 1, 6)", x.shortest(0, 1, 6));
        leaves(x, "shortest(0, 1, -2)", x.shortest(0, 1, -2));
        leaves(x, "seating(3, 0)", x.seating(3, 0));
        leaves(x, "seating(13, 0)", x.seating(13, 0));
        leaves(x, "table(3, 0)", x.table(3, 0));
        leaves(x, "table(31, 0)", x.table(31, 0));
        leaves(x, "questions(0)", x.questions(0));
        leaves(x, "questions(2)", x.questions(2));
        leaves(x, "top(0)", x.top(0));
        leaves(x, "top(2)", x.top(2));
        leaves(x, "fellows(0)", x.fellows(0));
        leaves(x, "fellows(3)", x.fellows(3));
        leaves(x, "thought(0, 0, 3, 5, 0)", x.thought(0, 0, 3, 5, 0));
        leaves(x, "thought(0, 0, 9, 5, 0)", x.thought(0, 0, 9, 5, 0));
        leaves(x, "drawn(3, 1, 0)", x.drawn(3, 1, 0));
        leaves(x, "drawn(61, 1, 0)", x.drawn(61, 1, 0));
        leaves(x, "image(1)", x.image(1));
        leaves(x, "image(2)", x.image(2));
        leaves(x, "restore(1)", x.restore(1));
        leaves(x, "restore(2)", x.restore(2));
    }

    private static void leftByAsked() {
        promise = "36 to 41";
        SnakeRoll x = amid();
        leaves(x, "kind(0)", x.kind(0));
        leaves(x, "kind(3)", x.kind(3));
        leaves(x, "ask(0, 0)", x.ask(0, 0));
        leaves(x, "ask(0, 2)", x.ask(0, 2));
        leaves(x, "trace(0)", x.trace(0));
        leaves(x, "trace(16)", x.trace(16));
        leaves(x, "count(0)", x.count(0));
        leaves(x, "count(8)", x.count(8));
        leaves(x, "status()", x.status());
    }
}
