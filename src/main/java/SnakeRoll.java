/** The school roll at Marl: subjects, a timetable, pupils of kinds in seats, and what each knows when. */
public final class SnakeRoll {
    public static final int NONE = -1000000, BAD = -1000001, STATE = -1000002, FULL = -1000003;

    private static final int FINDINGS = -1000010;
    private static final int FINDING_NULL = 1, FINDING_PLACE = 2, FINDING_KIND = 3, FINDING_SIZE = 4, FINDING_STORE = 5;
    private static final int FAULTS = -1000100;

    private static final int ROWS = 8, LANES = 3, ITEMS = 40;
    private static final int SUBJECTS = 6, LESSONS = 8, PUPILS = 6, REACHES = 7;
    private static final int ACTS = 24, IMAGES = 2, TAPE = 120, TRACE = 16;
    private static final int LAST_DAY = 999, MOST_HEARD = 99, MOST_AHEAD = 60;

    private static final int CHILD = 1, QUICK = 2, SLOW = 3, SNAKE = 4, OLD = 5;

    private final Row[] rows = new Row[ROWS];
    private final School now = new School();
    private final School[] images = new School[IMAGES];
    private final Acts acts = new Acts();
    private final Reader reader = new Reader();
    private final Foretelling foretelling = new Foretelling();
    private final Asking asking = new Asking();
    private int finding;

    public SnakeRoll() {
        for (int i = 0; i < ROWS; i++) {
            rows[i] = new Row();
        }
        for (int k = 0; k < IMAGES; k++) {
            images[k] = new School();
        }
    }

    // ---- rows

    public int row(int row, int lane, int n) {
        if (noRow(row) || outside(lane, 0, LANES - 1) || n > ITEMS) {
            return BAD;
        }
        if (n < 0) {
            return found(FINDING_SIZE);
        }
        rows[row].begin(lane, n);
        return fine(n);
    }

    public int set(int row, int i, int v) {
        if (noRow(row)) {
            return BAD;
        }
        int wrong = wrongPlace(row, i, 1);
        return wrong != 0 ? found(wrong) : fine(rows[row].put(i, v));
    }

    public int copy(int a, int i, int b, int j, int n) {
        if (noRow(a) || noRow(b)) {
            return BAD;
        }
        Row from = rows[a];
        Row to = rows[b];
        if (!from.there || !to.there) {
            return found(FINDING_NULL);
        }
        if (from.lane != to.lane) {
            return found(FINDING_STORE);
        }
        if (!from.has(i, n) || !to.has(j, n)) {
            return found(FINDING_PLACE);
        }
        System.arraycopy(from.items, i, to.items, j, n);
        return fine(n);
    }

    public int drop(int row) {
        if (noRow(row)) {
            return BAD;
        }
        if (!rows[row].there) {
            return found(FINDING_NULL);
        }
        rows[row].there = false;
        return fine(rows[row].size);
    }

    // ---- what is told

    public int feed(int letter) {
        if (outside(letter, 0, 255)) {
            return BAD;
        }
        return reader.take(letter) ? reader.length : FULL;
    }

    public int school() {
        boolean whole = reader.readTape();
        reader.length = 0;
        if (!whole) {
            return FAULTS - reader.start;
        }
        now.become(reader.read);
        acts.kept = 0;
        return now.pupils;
    }

    public int fault() {
        return reader.fault;
    }

    public int undo() {
        return acts.takeBack(now) ? acts.kept : STATE;
    }

    // ---- what is done

    public int days(int n) {
        if (noSchool()) {
            return STATE;
        }
        if (outside(n, 1, ACTS)) {
            return BAD;
        }
        if (now.day + n > LAST_DAY) {
            return FULL;
        }
        for (int d = 0; d < n; d++) {
            acts.keep(now);
            now.passDay();
        }
        return now.known();
    }

    public int change(int pupil, int other) {
        if (noPupil(pupil) || noPupil(other) || pupil == other) {
            return BAD;
        }
        acts.keep(now);
        now.swapSeats(now.seatOf(pupil), now.seatOf(other));
        return now.seatOf(pupil);
    }

    public int teach(int lesson, int subject) {
        if (noLesson(lesson) || noSubject(subject)) {
            return BAD;
        }
        acts.keep(now);
        int before = now.plan[lesson];
        now.plan[lesson] = subject;
        return before;
    }

    public int forget(int pupil, int subject) {
        if (noPupil(pupil) || noSubject(subject)) {
            return BAD;
        }
        if (!now.knowsIt(pupil, subject)) {
            return STATE;
        }
        acts.keep(now);
        now.knows[pupil] &= ~(1 << subject);
        return now.knows[pupil];
    }

    public int tell(int pupil, int subject) {
        if (noPupil(pupil) || noSubject(subject)) {
            return BAD;
        }
        if (now.knowsIt(pupil, subject)) {
            return STATE;
        }
        acts.keep(now);
        now.knows[pupil] |= 1 << subject;
        return now.knows[pupil];
    }

    public int pupil(int pupil, int what) {
        if (noPupil(pupil)) {
            return BAD;
        }
        switch (what) {
            case 0: return now.knows[pupil];
            case 1: return now.seatOf(pupil);
            case 2: return now.form(pupil);
            case 3: return now.hears(pupil) ? 1 : 0;
            case 4: return now.graspable(now.knows[pupil]);
            default: return BAD;
        }
    }

    public int heard(int pupil, int subject) {
        if (noPupil(pupil) || noSubject(subject)) {
            return BAD;
        }
        return now.timesHeard(pupil, subject);
    }

    public int subject(int subject) {
        return noSubject(subject) ? BAD : now.needs[subject];
    }

    public int lesson(int n) {
        if (noSchool()) {
            return STATE;
        }
        return outside(n, 0, MOST_AHEAD) ? BAD : now.taughtOn(now.day + n);
    }

    // ---- foretold

    public int ahead(int pupil, int n, int subject) {
        if (noPupil(pupil) || outside(n, 0, MOST_AHEAD) || outside(subject, -1, now.subjects - 1)) {
            return BAD;
        }
        School then = foretelling.after(now, n);
        return subject < 0 ? then.knows[pupil] : then.timesHeard(pupil, subject);
    }

    public int when(int pupil, int subject) {
        if (noPupil(pupil) || noSubject(subject)) {
            return BAD;
        }
        return foretelling.firstKnown(now, pupil, subject);
    }

    public int all(int what) {
        if (noSchool()) {
            return STATE;
        }
        if (outside(what, 0, 1)) {
            return BAD;
        }
        return what == 0 ? now.knownByAll() : now.knownByAny();
    }

    public int follows(int pupil) {
        return noPupil(pupil) ? BAD : now.closure(now.knows[pupil]);
    }

    public int lacks(int pupil, int subject) {
        if (noPupil(pupil) || noSubject(subject)) {
            return BAD;
        }
        return now.needed(subject, 0) & ~now.knows[pupil];
    }

    public int shortest(int pupil, int subject, int k) {
        if (noPupil(pupil) || noSubject(subject) || k < -1) {
            return BAD;
        }
        // Needs are always of lesser numbers, so rising order is a row that can be learned, and the first of all.
        int learned = now.needed(subject, now.knows[pupil]);
        return k < 0 ? Integer.bitCount(learned) : bitNumber(learned, k);
    }

    public int seating(int n, int seat) {
        if (noSchool()) {
            return STATE;
        }
        if (outside(n, 1, 12) || outside(seat, -1, now.pupils - 1)) {
            return BAD;
        }
        foretelling.seatBest(now, n);
        return seat < 0 ? foretelling.most : foretelling.best[seat];
    }

    public int table(int n, int what) {
        if (noSchool()) {
            return STATE;
        }
        if (outside(n, 1, 30) || outside(what, 0, 1)) {
            return BAD;
        }
        int pair = foretelling.bestExchange(now, n);
        return pair < 0 || what == 0 ? pair : foretelling.most;
    }

    public int questions(int what) {
        if (noSchool()) {
            return STATE;
        }
        if (outside(what, 0, 1)) {
            return BAD;
        }
        int asked = now.fewestQuestions();
        return what == 0 ? Integer.bitCount(asked) : asked;
    }

    public int top(int what) {
        if (noSchool()) {
            return STATE;
        }
        if (outside(what, 0, 1)) {
            return BAD;
        }
        int best = now.bestPupil();
        return what == 0 ? best : now.form(best);
    }

    public int fellows(int pupil) {
        return noPupil(pupil) ? BAD : now.alike(pupil);
    }

    public int who(int pupil, int which, int row, int i, int n) {
        if (noPupil(pupil) || outside(which, 0, 1) || noRow(row) || outside(n, 1, 12)) {
            return BAD;
        }
        int wrong = wrongPlace(row, i, n);
        if (wrong != 0) {
            return found(wrong);
        }
        foretelling.believe(rows[row], i, n);
        return fine(which == 0 ? foretelling.kindsThatFit(now, pupil) : foretelling.seatsThatFit(now, pupil));
    }

    public int what(int lesson, int pupil, int row, int i, int n) {
        if (outside(lesson, -1, now.lessons - 1) || noPupil(pupil) || noRow(row) || outside(n, 1, 12)) {
            return BAD;
        }
        int wrong = wrongPlace(row, i, n);
        if (wrong != 0) {
            return found(wrong);
        }
        foretelling.believe(rows[row], i, n);
        return fine(lesson < 0 ? foretelling.reachesThatFit(now, pupil) : foretelling.subjectsThatFit(now, pupil, lesson));
    }

    public long thought(int pupil, int subject, int n, int p, int what) {
        if (noPupil(pupil) || noSubject(subject) || outside(n, 0, 8) || outside(p, 0, 10) || outside(what, 0, 1)) {
            return BAD;
        }
        long above = foretelling.casesKnown(now, pupil, subject, n, p);
        long below = power(10, n);
        long common = commonDivisor(above, below);
        return common < 1 ? BAD : (what == 0 ? above : below) / common;
    }

    public int drawn(int n, int seed, int what) {
        if (noSchool()) {
            return STATE;
        }
        if (outside(n, 0, MOST_AHEAD) || outside(seed, 1, 999999) || outside(what, 0, 1)) {
            return BAD;
        }
        School then = foretelling.afterDraws(now, n, seed);
        return what == 0 ? then.known() : then.knownByAll();
    }

    public int image(int k) {
        if (outside(k, 0, IMAGES - 1)) {
            return BAD;
        }
        if (noSchool()) {
            return STATE;
        }
        images[k].become(now);
        return 1;
    }

    public int restore(int k) {
        if (outside(k, 0, IMAGES - 1)) {
            return BAD;
        }
        if (images[k].pupils == 0) {
            return STATE;
        }
        now.become(images[k]);
        acts.kept = 0;
        return 1;
    }

    // ---- asked

    public int kind(int one) {
        return noPupil(one) ? BAD : now.kinds[one];
    }

    public int as(int one, int kind) {
        if (noPupil(one) || outside(kind, 0, OLD)) {
            return BAD;
        }
        return isKind(now.kinds[one], kind) ? fine(one) : found(FINDING_KIND);
    }

    public int ask(int one, int what) {
        if (noPupil(one) || outside(what, 0, 1)) {
            return BAD;
        }
        return asking.answer(now, one, what);
    }

    public int trace(int i) {
        return outside(i, 0, asking.left - 1) ? NONE : asking.bodies[i];
    }

    public int count(int what) {
        switch (what) {
            case 0: return rowsThere();
            case 1: return now.pupils;
            case 2: return now.subjects;
            case 3: return now.lessons;
            case 4: return now.day;
            case 5: return now.known();
            case 6: return acts.kept;
            case 7: return reader.length;
            default: return BAD;
        }
    }

    public int status() {
        return finding;
    }

    // ---- what is looked at ahead of a call

    private static boolean outside(int v, int least, int most) {
        return v < least || v > most;
    }

    private static boolean noRow(int row) {
        return outside(row, 0, ROWS - 1);
    }

    private boolean noSchool() {
        return now.pupils == 0;
    }

    private boolean noPupil(int pupil) {
        return outside(pupil, 0, now.pupils - 1);
    }

    private boolean noSubject(int subject) {
        return outside(subject, 0, now.subjects - 1);
    }

    private boolean noLesson(int lesson) {
        return outside(lesson, 0, now.lessons - 1);
    }

    private int wrongPlace(int row, int i, int n) {
        if (!rows[row].there) {
            return FINDING_NULL;
        }
        return rows[row].has(i, n) ? 0 : FINDING_PLACE;
    }

    private int found(int number) {
        finding = number;
        return FINDINGS - number;
    }

    private int fine(int answer) {
        finding = 0;
        return answer;
    }

    private int rowsThere() {
        int there = 0;
        for (int i = 0; i < ROWS; i++) {
            if (rows[i].there) {
                there++;
            }
        }
        return there;
    }

    // ---- numbers

    private static boolean isKind(int kind, int wanted) {
        switch (wanted) {
            case 0: return true;
            case CHILD: return kind == CHILD || kind == QUICK || kind == SLOW;
            case SNAKE: return kind == SNAKE || kind == OLD;
            default: return kind == wanted;
        }
    }

    /** The number of the k-th bit of a set of SUBJECTS, rising; NONE if it has not so many. */
    private static int bitNumber(int bits, int k) {
        int before = 0;
        for (int s = 0; s < SUBJECTS; s++) {
            if ((bits >> s & 1) != 0) {
                if (before == k) {
                    return s;
                }
                before++;
            }
        }
        return NONE;
    }

    private static long power(long base, int n) {
        long product = 1;
        for (int i = 0; i < n; i++) {
            product *= base;
        }
        return product;
    }

    private static long commonDivisor(long a, long b) {
        // Two numbers up to 10 to the 8th need fewer than 60 steps.
        for (int step = 0; step < 60 && b != 0; step++) {
            long rest = a % b;
            a = b;
            b = rest;
        }
        return a;
    }

    /** A ROW; its items are made once, so that a row told anew costs nothing. */
    private static final class Row {
        final int[] items = new int[ITEMS];
        boolean there;
        int lane;
        int size;

        void begin(int newLane, int n) {
            there = true;
            lane = newLane;
            size = n;
            for (int i = 0; i < ITEMS; i++) {
                items[i] = 0;
            }
        }

        /** Whether there are n places from i on; n is compared by what is left, so that no sum runs over. */
        boolean has(int i, int n) {
            return i >= 0 && n >= 0 && i <= size && n <= size - i;
        }

        int put(int i, int v) {
            items[i] = lane == 0 ? (byte) v : lane == 1 ? (short) v : v;
            return items[i];
        }
    }

    /** A SCHOOL as it stands on a day; with no pupil it is none. */
    private static final class School {
        int reach, subjects, lessons, pupils, day;
        final int[] needs = new int[SUBJECTS];
        final int[] plan = new int[LESSONS];
        final int[] kinds = new int[PUPILS];
        final int[] knows = new int[PUPILS];
        /** The PUPIL in each SEAT. */
        final int[] order = new int[PUPILS];
        final int[] heard = new int[PUPILS * SUBJECTS];

        void become(School other) {
            reach = other.reach;
            subjects = other.subjects;
            lessons = other.lessons;
            pupils = other.pupils;
            day = other.day;
            System.arraycopy(other.needs, 0, needs, 0, SUBJECTS);
            System.arraycopy(other.plan, 0, plan, 0, LESSONS);
            System.arraycopy(other.kinds, 0, kinds, 0, PUPILS);
            System.arraycopy(other.knows, 0, knows, 0, PUPILS);
            System.arraycopy(other.order, 0, order, 0, PUPILS);
            System.arraycopy(other.heard, 0, heard, 0, PUPILS * SUBJECTS);
        }

        void empty() {
            reach = 0;
            subjects = 0;
            lessons = 0;
            pupils = 0;
            day = 0;
            for (int i = 0; i < PUPILS * SUBJECTS; i++) {
                heard[i] = 0;
            }
        }

        /** The state of one pupil, so that it can go through days by itself. */
        void becomePupil(School other, int pupil) {
            knows[pupil] = other.knows[pupil];
            System.arraycopy(other.heard, pupil * SUBJECTS, heard, pupil * SUBJECTS, SUBJECTS);
        }

        int taughtOn(int onDay) {
            return lessons < 1 || onDay < 0 ? 0 : plan[onDay % lessons];
        }

        int timesHeard(int pupil, int subject) {
            return heard[pupil * SUBJECTS + subject];
        }

        boolean knowsIt(int pupil, int subject) {
            return (knows[pupil] >> subject & 1) != 0;
        }

        int form(int pupil) {
            return Integer.bitCount(knows[pupil]);
        }

        int seatOf(int pupil) {
            for (int seat = 0; seat < pupils; seat++) {
                if (order[seat] == pupil) {
                    return seat;
                }
            }
            return 0;
        }

        void swapSeats(int seat, int other) {
            int pupil = order[seat];
            order[seat] = order[other];
            order[other] = pupil;
        }

        void swapLessons(int lesson, int other) {
            int subject = plan[lesson];
            plan[lesson] = plan[other];
            plan[other] = subject;
        }

        /** Whether it hears every lesson there, whoever sits in front of it. */
        boolean hearsAnyway(int pupil, int seat) {
            return seat <= reach || isKind(kinds[pupil], SNAKE);
        }

        boolean hears(int pupil) {
            int seat = seatOf(pupil);
            return hearsAnyway(pupil, seat) || seat > 0 && knowsIt(order[seat - 1], taughtOn(day));
        }

        /** One DAY. The seats are gone through from the front; who sits in front is looked at before it learns. */
        void passDay() {
            int subject = taughtOn(day);
            boolean frontKnows = false;
            for (int seat = 0; seat < pupils; seat++) {
                int pupil = order[seat];
                boolean hearsIt = frontKnows || hearsAnyway(pupil, seat);
                frontKnows = knowsIt(pupil, subject);
                if (hearsIt) {
                    hearLesson(pupil, subject);
                }
            }
            day++;
        }

        void hearLesson(int pupil, int subject) {
            int place = pupil * SUBJECTS + subject;
            if (heard[place] < MOST_HEARD) {
                heard[place]++;
            }
            switch (kinds[pupil]) {
                case CHILD:
                    learnByGrasp(pupil, subject);
                    break;
                case QUICK:
                    learnByGrasp(pupil, subject);
                    learnOnwards(pupil, subject);
                    break;
                case SLOW:
                    if (heard[place] >= 2) {
                        learnByGrasp(pupil, subject);
                    }
                    break;
                default:
                    learnAsSnake(pupil, subject);
            }
        }

        private void learnByGrasp(int pupil, int subject) {
            if ((needs[subject] & ~knows[pupil]) == 0) {
                knows[pupil] |= 1 << subject;
            }
        }

        private void learnOnwards(int pupil, int subject) {
            for (int s = subject + 1; s < subjects; s++) {
                if (needs[s] != 0) {
                    learnByGrasp(pupil, s);
                }
            }
        }

        private void learnAsSnake(int pupil, int subject) {
            if (timesHeard(pupil, subject) >= Integer.bitCount(needs[subject])) {
                knows[pupil] |= 1 << subject;
            }
            if (kinds[pupil] == OLD && form(pupil) > 4) {
                knows[pupil] &= knows[pupil] - 1;
            }
        }

        int known() {
            int sum = 0;
            for (int p = 0; p < pupils; p++) {
                sum += form(p);
            }
            return sum;
        }

        int knownByAll() {
            int bits = (1 << subjects) - 1;
            for (int p = 0; p < pupils; p++) {
                bits &= knows[p];
            }
            return bits;
        }

        int knownByAny() {
            int bits = 0;
            for (int p = 0; p < pupils; p++) {
                bits |= knows[p];
            }
            return bits;
        }

        int graspable(int known) {
            int bits = 0;
            for (int s = 0; s < subjects; s++) {
                if ((needs[s] & ~known) == 0) {
                    bits |= 1 << s;
                }
            }
            return bits;
        }

        int closure(int known) {
            int bits = known;
            for (int s = 0; s < subjects; s++) {
                // Each round but the last adds a subject, so as many rounds as subjects are enough.
                bits |= graspable(bits);
            }
            return bits;
        }

        /** The subject, all that it needs and what that needs, but nothing that is known, nor what only that needs. */
        int needed(int subject, int known) {
            int bits = (1 << subject) & ~known;
            for (int s = subject; s >= 0; s--) {
                if ((bits >> s & 1) != 0) {
                    bits |= needs[s] & ~known;
                }
            }
            return bits;
        }

        int bestPupil() {
            int best = 0;
            for (int p = 1; p < pupils; p++) {
                if (form(p) > form(best)) {
                    best = p;
                }
            }
            return best;
        }

        int alike(int pupil) {
            int bits = 0;
            for (int p = 0; p < pupils; p++) {
                if (p != pupil && knows[p] == knows[pupil]) {
                    bits |= 1 << p;
                }
            }
            return bits;
        }

        int fewestQuestions() {
            // All subjects asked tell apart all that differ.
            int fewest = (1 << subjects) - 1;
            for (int asked = 0; asked < 1 << subjects; asked++) {
                if (Integer.bitCount(asked) < Integer.bitCount(fewest) && tellsApart(asked)) {
                    fewest = asked;
                }
            }
            return fewest;
        }

        private boolean tellsApart(int asked) {
            for (int p = 0; p < pupils; p++) {
                for (int q = 0; q < p; q++) {
                    int differ = knows[p] ^ knows[q];
                    if (differ != 0 && (differ & asked) == 0) {
                        return false;
                    }
                }
            }
            return true;
        }
    }

    /** The ACTS that can be undone: the school as it was ahead of each, in a ring. */
    private static final class Acts {
        private final School[] before = new School[ACTS];
        private int latest;
        int kept;

        Acts() {
            for (int i = 0; i < ACTS; i++) {
                before[i] = new School();
            }
        }

        void keep(School school) {
            latest = (latest + 1) % ACTS;
            before[latest].become(school);
            if (kept < ACTS) {
                kept++;
            }
        }

        boolean takeBack(School school) {
            if (kept == 0) {
                return false;
            }
            school.become(before[latest]);
            latest = (latest + ACTS - 1) % ACTS;
            kept--;
            return true;
        }
    }

    /** The TAPE, its TOKENS, and the school that they tell. */
    private static final class Reader {
        private static final int END = -1, NUMBER = -2, NO_TOKEN = -3;
        private static final int LAW = 0, SUBJECT = 1, LESSON = 2, PUPIL = 3, NO_PART = -1;

        private final int[] tape = new int[TAPE];
        final School read = new School();
        int length;
        /** The latest FAULT. */
        int fault;
        /** The TOKEN: a letter or sign by its byte, or one of the marks above; where it begins; its number. */
        private int token;
        int start;
        private int value;
        private int next;

        boolean take(int letter) {
            if (length >= TAPE) {
                return false;
            }
            tape[length] = letter;
            length++;
            return true;
        }

        /** Whether the tape tells a school; if not, fault and start tell why not and where. */
        boolean readTape() {
            read.empty();
            next = 0;
            int last = NO_PART;
            for (int parts = 0; parts <= TAPE; parts++) {
                goOn();
                if (token == END && last == PUPIL) {
                    return true;
                }
                int part = partOf(token);
                int wrong = readPart(part, last);
                if (wrong != 0) {
                    fault = wrong;
                    return false;
                }
                last = part;
            }
            return false;
        }

        private int readPart(int part, int last) {
            if (part == NO_PART || part != last + 1 && (part != last || part == LAW)) {
                return 1;
            }
            int letter = token;
            if (isFull(part)) {
                return 3;
            }
            goOn();
            if (token != NUMBER) {
                return 1;
            }
            if (value >= limit(part)) {
                return 2;
            }
            add(part, letter);
            goOn();
            return token == ';' ? 0 : 1;
        }

        private static int partOf(int letter) {
            switch (letter) {
                case 'r': return LAW;
                case 'j': return SUBJECT;
                case 'd': return LESSON;
                default: return kindOf(letter) == 0 ? NO_PART : PUPIL;
            }
        }

        private static int kindOf(int letter) {
            switch (letter) {
                case 'c': return CHILD;
                case 'q': return QUICK;
                case 'w': return SLOW;
                case 's': return SNAKE;
                case 'o': return OLD;
                default: return 0;
            }
        }

        private boolean isFull(int part) {
            switch (part) {
                case SUBJECT: return read.subjects >= SUBJECTS;
                case LESSON: return read.lessons >= LESSONS;
                case PUPIL: return read.pupils >= PUPILS;
                default: return false;
            }
        }

        /** One above the greatest number that may stand in such a part. */
        private int limit(int part) {
            switch (part) {
                case LAW: return REACHES;
                case LESSON: return read.subjects;
                default: return 1 << read.subjects;
            }
        }

        private void add(int part, int letter) {
            switch (part) {
                case LAW:
                    read.reach = value;
                    break;
                case SUBJECT:
                    read.needs[read.subjects] = value;
                    read.subjects++;
                    break;
                case LESSON:
                    read.plan[read.lessons] = value;
                    read.lessons++;
                    break;
                default:
                    read.kinds[read.pupils] = kindOf(letter);
                    read.knows[read.pupils] = value;
                    read.order[read.pupils] = read.pupils;
                    read.pupils++;
            }
        }

        private void goOn() {
            start = next;
            if (next >= length) {
                token = END;
                return;
            }
            int letter = tape[next];
            if (isFigure(letter)) {
                takeNumber();
                return;
            }
            next++;
            token = letter;
        }

        private void takeNumber() {
            value = 0;
            while (next < length && isFigure(tape[next])) {
                if (next - start < 2) {
                    value = value * 10 + tape[next] - '0';
                }
                next++;
            }
            token = next - start > 2 ? NO_TOKEN : NUMBER;
        }

        private static boolean isFigure(int letter) {
            return letter >= '0' && letter <= '9';
        }
    }

    /** What is foretold: days are gone through in a school that is only thought of. */
    private static final class Foretelling {
        private final School work = new School();
        private School from;
        private int days;
        int most;
        final int[] best = new int[PUPILS];
        private final int[] trying = new int[PUPILS];
        private Row told;
        private int toldFrom;

        School after(School school, int n) {
            work.become(school);
            for (int d = 0; d < n; d++) {
                work.passDay();
            }
            return work;
        }

        int firstKnown(School school, int pupil, int subject) {
            work.become(school);
            for (int d = 0; d <= MOST_AHEAD; d++) {
                if (work.knowsIt(pupil, subject)) {
                    return d;
                }
                work.passDay();
            }
            return NONE;
        }

        /** The best order of seats, into best, and how much is known by it, into most. */
        void seatBest(School school, int n) {
            work.become(school);
            from = school;
            days = n;
            most = -1;
            fillSeat(this, 0, 0, 0, 0);
        }

        /**
         * Tries all pupils not yet taken in a seat. What a pupil comes to know hangs on who sits in front of it alone,
         * so seats are filled from the front, each pupil's days gone through once for all orders behind it.
         */
        private static void fillSeat(Foretelling f, int seat, int taken, int front, int sum) {
            if (seat >= f.work.pupils || seat >= PUPILS) {
                f.weigh(sum);
                return;
            }
            for (int p = 0; p < f.work.pupils; p++) {
                if ((taken >> p & 1) == 0) {
                    f.trying[seat] = p;
                    int heardOn = f.work.hearsAnyway(p, seat) ? -1 : front;
                    int knew = f.goThrough(p, heardOn);
                    fillSeat(f, seat + 1, taken | 1 << p, knew, sum + f.work.form(p));
                }
            }
        }

        private void weigh(int sum) {
            if (sum > most) {
                most = sum;
                System.arraycopy(trying, 0, best, 0, PUPILS);
            }
        }

        /** One pupil's days, the lessons heard on those told as bits; the days as which began it knew the lesson. */
        private int goThrough(int pupil, int heardOn) {
            work.becomePupil(from, pupil);
            int knew = 0;
            for (int d = 0; d < days; d++) {
                int subject = work.taughtOn(from.day + d);
                if (work.knowsIt(pupil, subject)) {
                    knew |= 1 << d;
                }
                if ((heardOn >> d & 1) != 0) {
                    work.hearLesson(pupil, subject);
                }
            }
            return knew;
        }

        /** The two lessons to exchange, 10 the one and the other one, and how much is known then, into most; NONE. */
        int bestExchange(School school, int n) {
            most = after(school, n).known();
            int pair = NONE;
            for (int a = 0; a < school.lessons; a++) {
                for (int b = a + 1; b < school.lessons; b++) {
                    int sum = knownExchanged(school, n, a, b);
                    if (sum > most) {
                        most = sum;
                        pair = 10 * a + b;
                    }
                }
            }
            return pair;
        }

        private int knownExchanged(School school, int n, int a, int b) {
            work.become(school);
            work.swapLessons(a, b);
            for (int d = 0; d < n; d++) {
                work.passDay();
            }
            return work.known();
        }

        /** What a row tells of the forms behind n days. */
        void believe(Row row, int i, int n) {
            told = row;
            toldFrom = i;
            days = n;
        }

        int kindsThatFit(School school, int pupil) {
            int bits = 0;
            for (int kind = CHILD; kind <= OLD; kind++) {
                work.become(school);
                work.kinds[pupil] = kind;
                bits |= fits(pupil) << kind;
            }
            return bits;
        }

        int seatsThatFit(School school, int pupil) {
            int bits = 0;
            for (int seat = 0; seat < school.pupils; seat++) {
                work.become(school);
                work.swapSeats(work.seatOf(pupil), seat);
                bits |= fits(pupil) << seat;
            }
            return bits;
        }

        int subjectsThatFit(School school, int pupil, int lesson) {
            int bits = 0;
            for (int subject = 0; subject < school.subjects; subject++) {
                work.become(school);
                work.plan[lesson] = subject;
                bits |= fits(pupil) << subject;
            }
            return bits;
        }

        int reachesThatFit(School school, int pupil) {
            int bits = 0;
            for (int reach = 0; reach < REACHES; reach++) {
                work.become(school);
                work.reach = reach;
                bits |= fits(pupil) << reach;
            }
            return bits;
        }

        /** 1 if the forms of a pupil come to be as the row tells, else 0. */
        private int fits(int pupil) {
            if (told == null || !told.has(toldFrom, days)) {
                return 0;
            }
            for (int d = 0; d < days; d++) {
                work.passDay();
                if (work.form(pupil) != told.items[toldFrom + d]) {
                    return 0;
                }
            }
            return 1;
        }

        /** In how many of 10 to the n cases it is known, if the master is lost in thought in p of 10. */
        long casesKnown(School school, int pupil, int subject, int n, int p) {
            long cases = 0;
            for (int lost = 0; lost < 1 << n; lost++) {
                int lostDays = Integer.bitCount(lost);
                long weight = power(p, lostDays) * power(10 - p, n - lostDays);
                if (weight != 0 && knownDespite(school, pupil, subject, n, lost)) {
                    cases += weight;
                }
            }
            return cases;
        }

        private boolean knownDespite(School school, int pupil, int subject, int n, int lost) {
            work.become(school);
            for (int d = 0; d < n; d++) {
                if ((lost >> d & 1) != 0) {
                    work.day++;
                } else {
                    work.passDay();
                }
            }
            return work.knowsIt(pupil, subject);
        }

        School afterDraws(School school, int n, int seed) {
            work.become(school);
            long x = seed;
            for (int d = 0; d < n; d++) {
                x = x * 16807 % 2147483647L;
                drawOnce(x);
                work.passDay();
            }
            return work;
        }

        private void drawOnce(long x) {
            if (work.subjects < 1 || work.lessons < 1 || work.pupils < 1) {
                return;
            }
            int subject = (int) (x % work.subjects);
            if (x % 3 == 0) {
                work.plan[(int) (x % work.lessons)] = subject;
            }
            if (x % 4 == 0) {
                work.knows[(int) (x % work.pupils)] &= ~(1 << subject);
            }
        }
    }

    /** The ASKS and THE TRACE of the bodies that began. */
    private static final class Asking {
        /** By KIND the body that begins: its own, or that of the nearest kind that it is, too. */
        private static final int[] SIZE_BODIES = {10, 11, 12, 11, 13, 14};
        private static final int[] MARK_BODIES = {20, 21, 24, 22, 23, 23};
        private static final int DEEPEST = 16;

        final int[] bodies = new int[TRACE];
        int left;
        private int number, seat, form, sizeBody, markBody;

        int answer(School school, int pupil, int what) {
            left = 0;
            number = pupil;
            seat = school.seatOf(pupil);
            form = school.form(pupil);
            int kind = school.kinds[pupil];
            if (outside(kind, 0, OLD)) {
                return BAD;
            }
            sizeBody = SIZE_BODIES[kind];
            markBody = MARK_BODIES[kind];
            return begin(this, what == 0 ? sizeBody : markBody, 0);
        }

        private static int begin(Asking a, int body, int depth) {
            if (depth > DEEPEST) {
                return 0;
            }
            a.leave(body);
            int on = depth + 1;
            switch (body) {
                case 10: return a.form;
                case 11: return begin(a, 10, on) + begin(a, a.markBody, on);
                case 12: return -begin(a, 11, on);
                case 13: return begin(a, 10, on) - 100;
                case 14: return 2 * begin(a, 13, on);
                case 20: return a.number;
                case 21: return begin(a, 20, on) + a.seat;
                case 22: return begin(a, 21, on) - 1000;
                case 23: return begin(a, 20, on) - begin(a, a.sizeBody, on);
                case 24: return 2 * begin(a, 21, on);
                default: return 0;
            }
        }

        private void leave(int body) {
            if (left < TRACE) {
                bodies[left] = body;
                left++;
            }
        }
    }
}
