import java.math.BigInteger;
import java.util.ArrayDeque;
import java.util.ArrayList;
import java.util.Arrays;
import java.util.Deque;
import java.util.List;
import java.util.Map;
import java.util.TreeMap;
import java.util.TreeSet;
import java.util.regex.Matcher;
import java.util.regex.Pattern;

/**
 * The document once more, written apart from SnakeRoll with the whole Java library and other ways of search,
 * so that a slip in the one shows against the other.
 */
final class Model {
    static final int NONE = -1000000, BAD = -1000001, STATE = -1000002, FULL = -1000003;

    /** A pupil as it is asked: the kinds as Java's own classes, the lent bodies as default methods. */
    interface Pupil {
        Being being();
        default int size() { being().begin(10); return being().form; }
        default int mark() { being().begin(20); return being().number; }
    }

    static final class Being {
        int form, number, seat;
        List<Integer> trace;
        void begin(int body) { if (trace.size() < 16) trace.add(body); }
    }

    static class Child implements Pupil {
        final Being being;
        Child(Being b) { being = b; }
        public Being being() { return being; }
        public int size() { being.begin(11); int given = Pupil.super.size(); return given + mark(); }
        public int mark() { being.begin(21); return Pupil.super.mark() + being.seat; }
    }

    static final class Quick extends Child {
        Quick(Being b) { super(b); }
        public int size() { being.begin(12); return 0 - super.size(); }
        public int mark() { being.begin(24); return super.mark() * 2; }
    }

    static final class Slow extends Child {
        Slow(Being b) { super(b); }
        public int mark() { being.begin(22); return super.mark() - 1000; }
    }

    static class Snake implements Pupil {
        final Being being;
        Snake(Being b) { being = b; }
        public Being being() { return being; }
        public int size() { being.begin(13); return Pupil.super.size() - 100; }
        public int mark() { being.begin(23); int given = Pupil.super.mark(); return given - size(); }
    }

    static final class Old extends Snake {
        Old(Being b) { super(b); }
        public int size() { being.begin(14); return super.size() * 2; }
    }

    static Pupil pupilOf(char sort, Being b) {
        switch (sort) {
            case 'c': return new Child(b);
            case 'q': return new Quick(b);
            case 'w': return new Slow(b);
            case 's': return new Snake(b);
            default: return new Old(b);
        }
    }

    static final String SORTS = " cqwso";
    static final Class<?>[] CLASSES = {Pupil.class, Child.class, Quick.class, Slow.class, Snake.class, Old.class};

    /** A school; sets of subjects are sets. */
    static final class Roll {
        int reach, day;
        List<TreeSet<Integer>> needs = new ArrayList<>();
        List<Integer> lessons = new ArrayList<>();
        StringBuilder sorts = new StringBuilder();
        List<TreeSet<Integer>> knows = new ArrayList<>();
        List<Integer> seats = new ArrayList<>();
        List<Map<Integer, Integer>> heard = new ArrayList<>();

        Roll twin() {
            Roll r = new Roll();
            r.reach = reach;
            r.day = day;
            r.needs = needs;
            r.lessons.addAll(lessons);
            r.sorts.append(sorts);
            for (TreeSet<Integer> k : knows) r.knows.add(new TreeSet<>(k));
            r.seats.addAll(seats);
            for (Map<Integer, Integer> h : heard) r.heard.add(new TreeMap<>(h));
            return r;
        }

        int pupils() { return sorts.length(); }

        int lessonOf(int d) { return lessons.get(d % lessons.size()); }

        boolean hears(int p, int subject) {
            if (sorts.charAt(p) == 's' || sorts.charAt(p) == 'o') return true;
            if (seats.get(p) <= reach) return true;
            for (int q = 0; q < pupils(); q++) {
                if (seats.get(q) == seats.get(p) - 1 && knows.get(q).contains(subject)) return true;
            }
            return false;
        }

        int timesHeard(int p, int s) { return heard.get(p).getOrDefault(s, 0); }

        void pass(boolean thoughtful) {
            int subject = lessonOf(day);
            day++;
            if (thoughtful) return;
            boolean[] hearing = new boolean[pupils()];
            for (int p = 0; p < pupils(); p++) hearing[p] = hears(p, subject);
            for (int p = 0; p < pupils(); p++) if (hearing[p]) learn(p, subject);
        }

        void learn(int p, int s) {
            TreeSet<Integer> k = knows.get(p);
            heard.get(p).put(s, Math.min(99, timesHeard(p, s) + 1));
            char sort = sorts.charAt(p);
            boolean grasp = k.containsAll(needs.get(s));
            if (sort == 'c' || sort == 'q') {
                if (grasp) k.add(s);
            }
            if (sort == 'q') {
                for (int t = s + 1; t < needs.size(); t++) {
                    if (!needs.get(t).isEmpty() && k.containsAll(needs.get(t))) k.add(t);
                }
            }
            if (sort == 'w' && grasp && timesHeard(p, s) > 1) k.add(s);
            if (sort == 's' || sort == 'o') {
                if (timesHeard(p, s) >= Math.max(1, needs.get(s).size())) k.add(s);
            }
            if (sort == 'o' && k.size() > 4) k.pollFirst();
        }

        int known() {
            int sum = 0;
            for (TreeSet<Integer> k : knows) sum += k.size();
            return sum;
        }

        int knownAfter(int n) {
            Roll r = twin();
            for (int d = 0; d < n; d++) r.pass(false);
            return r.known();
        }
    }

    static int bits(Iterable<Integer> set) {
        int b = 0;
        for (int s : set) b |= 1 << s;
        return b;
    }

    static TreeSet<Integer> setOf(int bits) {
        TreeSet<Integer> set = new TreeSet<>();
        for (int s = 0; s < 31; s++) if ((bits & (1 << s)) != 0) set.add(s);
        return set;
    }

    final Object[] rows = new Object[8];
    final StringBuilder tape = new StringBuilder();
    Roll now;
    final Roll[] images = new Roll[2];
    final Deque<Roll> acts = new ArrayDeque<>();
    List<Integer> trace = new ArrayList<>();
    int fault;
    int status;

    void act() {
        acts.addLast(now.twin());
        if (acts.size() > 24) acts.removeFirst();
    }

    // ---- reading

    static final class Token {
        final String text;
        final int at;
        Token(String t, int a) { text = t; at = a; }
        boolean isNumber() { return text.matches("[0-9]{1,2}"); }
    }

    static List<Token> tokens(String text) {
        List<Token> list = new ArrayList<>();
        Matcher m = Pattern.compile("[0-9]+|[^0-9]", Pattern.DOTALL).matcher(text);
        while (m.find()) list.add(new Token(m.group(), m.start()));
        list.add(new Token("", text.length()));
        return list;
    }

    Roll read;
    int faultAt;
    int faultNow;

    boolean fail(int number, Token t) {
        faultNow = number;
        faultAt = t.at;
        return false;
    }

    boolean readAll(String text) {
        read = new Roll();
        List<Token> list = tokens(text);
        String place = "r";
        int i = 0;
        while (true) {
            Token letter = list.get(i);
            if (letter.text.isEmpty()) return place.equals("cqwso") || fail(1, letter);
            if (letter.text.length() != 1 || place.indexOf(letter.text) < 0) return fail(1, letter);
            char c = letter.text.charAt(0);
            if (c == 'j' && read.needs.size() == 6 || c == 'd' && read.lessons.size() == 8) return fail(3, letter);
            if ("cqwso".indexOf(c) >= 0 && read.pupils() == 6) return fail(3, letter);
            Token number = list.get(i + 1);
            if (!number.isNumber()) return fail(1, number);
            if (!takes(c, Integer.parseInt(number.text))) return fail(2, number);
            Token sign = list.get(i + 2);
            if (!sign.text.equals(";")) return fail(1, sign);
            place = c == 'r' ? "j" : c == 'j' ? "jd" : c == 'd' ? "dcqwso" : "cqwso";
            i += 3;
        }
    }

    boolean takes(char c, int v) {
        int all = (1 << read.needs.size()) - 1;
        switch (c) {
            case 'r':
                read.reach = v;
                return v <= 6;
            case 'j':
                if ((v & ~all) != 0) return false;
                read.needs.add(setOf(v));
                return true;
            case 'd':
                read.lessons.add(v);
                return v < read.needs.size();
            default:
                if ((v & ~all) != 0) return false;
                read.seats.add(read.pupils());
                read.sorts.append(c);
                read.knows.add(setOf(v));
                read.heard.add(new TreeMap<>());
                return true;
        }
    }

    // ---- calls

    long call(String name, int... a) {
        switch (name) {
            case "row": case "set": case "copy": case "drop": return onRows(name, a);
            case "who": case "what": return fitting(name, a);
            case "as": return as(a[0], a[1]);
            case "status": return status;
            case "trace": return a[0] >= 0 && a[0] < trace.size() ? trace.get(a[0]) : NONE;
            case "fault": return fault;
            case "count": return count(a[0]);
            case "feed": return feed(a[0]);
            case "school": return school();
            case "undo": return undo();
            case "image": case "restore": return imaged(name, a[0]);
            default: return onSchool(name, a);
        }
    }

    long finding(int number) {
        status = number;
        return number == 0 ? 0 : -1000010 - number;
    }

    static int size(Object row) { return java.lang.reflect.Array.getLength(row); }

    static int item(Object row, int i) { return ((Number) java.lang.reflect.Array.get(row, i)).intValue(); }

    static int put(Object row, int i, int v) {
        if (row instanceof byte[]) return ((byte[]) row)[i] = (byte) v;
        if (row instanceof short[]) return ((short[]) row)[i] = (short) v;
        return ((int[]) row)[i] = v;
    }

    long onRows(String name, int[] a) {
        if (a[0] < 0 || a[0] > 7) return BAD;
        switch (name) {
            case "row":
                if (a[1] < 0 || a[1] > 2 || a[2] > 40) return BAD;
                if (a[2] < 0) return finding(4);
                rows[a[0]] = a[1] == 0 ? new byte[a[2]] : a[1] == 1 ? new short[a[2]] : (Object) new int[a[2]];
                finding(0);
                return a[2];
            case "set":
                if (rows[a[0]] == null) return finding(1);
                if (a[1] < 0 || a[1] >= size(rows[a[0]])) return finding(2);
                finding(0);
                return put(rows[a[0]], a[1], a[2]);
            case "copy":
                if (a[2] < 0 || a[2] > 7) return BAD;
                if (rows[a[0]] == null || rows[a[2]] == null) return finding(1);
                try {
                    System.arraycopy(rows[a[0]], a[1], rows[a[2]], a[3], a[4]);
                } catch (ArrayStoreException e) {
                    return finding(5);
                } catch (IndexOutOfBoundsException e) {
                    return finding(2);
                }
                finding(0);
                return a[4];
            default:
                if (rows[a[0]] == null) return finding(1);
                int n = size(rows[a[0]]);
                rows[a[0]] = null;
                finding(0);
                return n;
        }
    }

    boolean isPupil(int p) { return now != null && p >= 0 && p < now.pupils(); }

    boolean isSubject(int s) { return now != null && s >= 0 && s < now.needs.size(); }

    boolean isLesson(int l) { return now != null && l >= 0 && l < now.lessons.size(); }

    long fitting(String name, int[] a) {
        boolean kinds = name.equals("who") && a[1] == 0;
        int pupil = name.equals("who") ? a[0] : a[1];
        int n = a[4];
        if (!isPupil(pupil) || a[2] < 0 || a[2] > 7 || n < 1 || n > 12) return BAD;
        if (name.equals("who") && a[1] != 0 && a[1] != 1) return BAD;
        if (name.equals("what") && a[0] != -1 && !isLesson(a[0])) return BAD;
        Object row = rows[a[2]];
        if (row == null) return finding(1);
        if (a[3] < 0 || (long) a[3] + n > size(row)) return finding(2);
        finding(0);
        List<Roll> tries = new ArrayList<>();
        int first = kinds ? 1 : 0;
        if (kinds) {
            for (int k = 1; k <= 5; k++) {
                Roll r = now.twin();
                r.sorts.setCharAt(pupil, SORTS.charAt(k));
                tries.add(r);
            }
        } else if (name.equals("who")) {
            for (int seat = 0; seat < now.pupils(); seat++) {
                Roll r = now.twin();
                int there = r.seats.indexOf(seat);
                r.seats.set(there, r.seats.get(pupil));
                r.seats.set(pupil, seat);
                tries.add(r);
            }
        } else if (a[0] == -1) {
            for (int reach = 0; reach <= 6; reach++) {
                Roll r = now.twin();
                r.reach = reach;
                tries.add(r);
            }
        } else {
            for (int s = 0; s < now.needs.size(); s++) {
                Roll r = now.twin();
                r.lessons.set(a[0], s);
                tries.add(r);
            }
        }
        int answer = 0;
        for (int t = 0; t < tries.size(); t++) {
            boolean so = true;
            for (int d = 0; d < n; d++) {
                tries.get(t).pass(false);
                so &= tries.get(t).knows.get(pupil).size() == item(row, a[3] + d);
            }
            if (so) answer |= 1 << (t + first);
        }
        return answer;
    }

    long as(int one, int kind) {
        if (!isPupil(one) || kind < 0 || kind > 5) return BAD;
        if (!CLASSES[kind].isInstance(pupilOf(now.sorts.charAt(one), new Being()))) return finding(3);
        finding(0);
        return one;
    }

    long count(int what) {
        switch (what) {
            case 0: return Arrays.stream(rows).filter(r -> r != null).count();
            case 1: return now == null ? 0 : now.pupils();
            case 2: return now == null ? 0 : now.needs.size();
            case 3: return now == null ? 0 : now.lessons.size();
            case 4: return now == null ? 0 : now.day;
            case 5: return now == null ? 0 : now.known();
            case 6: return acts.size();
            case 7: return tape.length();
            default: return BAD;
        }
    }

    long feed(int letter) {
        if (letter < 0 || letter > 255) return BAD;
        if (tape.length() == 120) return FULL;
        tape.append((char) letter);
        return tape.length();
    }

    long school() {
        String text = tape.toString();
        tape.setLength(0);
        if (!readAll(text)) {
            fault = faultNow;
            return -1000100 - faultAt;
        }
        now = read;
        acts.clear();
        return now.pupils();
    }

    long undo() {
        if (acts.isEmpty()) return STATE;
        now = acts.removeLast();
        return acts.size();
    }

    long imaged(String name, int k) {
        if (k != 0 && k != 1) return BAD;
        if (name.equals("image")) {
            if (now == null) return STATE;
            images[k] = now.twin();
            return 1;
        }
        if (images[k] == null) return STATE;
        now = images[k].twin();
        acts.clear();
        return 1;
    }

    long onSchool(String name, int[] a) {
        switch (name) {
            case "days": case "lesson": case "all": case "seating": case "table": case "questions": case "top": case "drawn":
                return now == null ? STATE : ofAll(name, a);
            case "subject":
                return isSubject(a[0]) ? bits(now.needs.get(a[0])) : BAD;
            case "teach":
                if (!isLesson(a[0]) || !isSubject(a[1])) return BAD;
                act();
                return now.lessons.set(a[0], a[1]);
            default:
                return isPupil(a[0]) ? ofPupil(name, a) : BAD;
        }
    }

    long ofAll(String name, int[] a) {
        boolean noWhat = a[a.length - 1] != 0 && a[a.length - 1] != 1;
        switch (name) {
            case "days":
                if (a[0] < 1 || a[0] > 24) return BAD;
                if (now.day + a[0] > 999) return FULL;
                for (int d = 0; d < a[0]; d++) {
                    act();
                    now.pass(false);
                }
                return now.known();
            case "lesson":
                return a[0] < 0 || a[0] > 60 ? BAD : now.lessonOf(now.day + a[0]);
            case "all": {
                if (noWhat) return BAD;
                TreeSet<Integer> every = new TreeSet<>(now.knows.get(0));
                TreeSet<Integer> any = new TreeSet<>();
                for (TreeSet<Integer> k : now.knows) {
                    every.retainAll(k);
                    any.addAll(k);
                }
                return bits(a[0] == 0 ? every : any);
            }
            case "seating":
                if (a[0] < 1 || a[0] > 12 || a[1] < -1 || a[1] >= now.pupils()) return BAD;
                bestSum = -1;
                order(a[0], new ArrayList<>());
                return a[1] == -1 ? bestSum : bestOrder.get(a[1]);
            case "table":
                return a[0] < 1 || a[0] > 30 || noWhat ? BAD : table(a[0], a[1]);
            case "questions":
                return noWhat ? BAD : questions(a[0]);
            case "top": {
                if (noWhat) return BAD;
                int best = 0;
                for (int p = 0; p < now.pupils(); p++) if (now.knows.get(p).size() > now.knows.get(best).size()) best = p;
                return a[0] == 0 ? best : now.knows.get(best).size();
            }
            default:
                return a[0] < 0 || a[0] > 60 || a[1] < 1 || a[1] > 999999 || noWhat ? BAD : drawn(a[0], a[1], a[2]);
        }
    }

    int bestSum;
    List<Integer> bestOrder;

    void order(int n, List<Integer> row) {
        if (row.size() == now.pupils()) {
            Roll r = now.twin();
            for (int seat = 0; seat < row.size(); seat++) r.seats.set(row.get(seat), seat);
            int sum = r.knownAfter(n);
            if (sum > bestSum) {
                bestSum = sum;
                bestOrder = new ArrayList<>(row);
            }
            return;
        }
        for (int p = 0; p < now.pupils(); p++) {
            if (row.contains(p)) continue;
            row.add(p);
            order(n, row);
            row.remove(row.size() - 1);
        }
    }

    long table(int n, int what) {
        int asItIs = now.knownAfter(n);
        int most = asItIs;
        int which = NONE;
        for (int i = 0; i < now.lessons.size(); i++) {
            for (int j = i + 1; j < now.lessons.size(); j++) {
                Roll r = now.twin();
                java.util.Collections.swap(r.lessons, i, j);
                int sum = r.knownAfter(n);
                if (sum > most) {
                    most = sum;
                    which = 10 * i + j;
                }
            }
        }
        return which == NONE ? NONE : what == 0 ? which : most;
    }

    long questions(int what) {
        for (int size = 0; size <= 6; size++) {
            for (int asked = 0; asked < 1 << now.needs.size(); asked++) {
                if (setOf(asked).size() != size) continue;
                TreeMap<Integer, Integer> byAnswers = new TreeMap<>();
                boolean apart = true;
                for (TreeSet<Integer> k : now.knows) {
                    Integer other = byAnswers.put(bits(k) & asked, bits(k));
                    apart &= other == null || other == bits(k);
                }
                if (apart) return what == 0 ? size : asked;
            }
        }
        throw new IllegalStateException();
    }

    long drawn(int n, int seed, int what) {
        Roll r = now.twin();
        BigInteger x = BigInteger.valueOf(seed);
        for (int d = 0; d < n; d++) {
            x = x.multiply(BigInteger.valueOf(16807)).mod(BigInteger.valueOf(2147483647));
            int v = x.intValueExact();
            if (v % 3 == 0) r.lessons.set(v % r.lessons.size(), v % r.needs.size());
            if (v % 4 == 0) r.knows.get(v % r.pupils()).remove((Integer) (v % r.needs.size()));
            r.pass(false);
        }
        if (what == 0) return r.known();
        TreeSet<Integer> every = new TreeSet<>(r.knows.get(0));
        for (TreeSet<Integer> k : r.knows) every.retainAll(k);
        return bits(every);
    }

    long ofPupil(String name, int[] a) {
        int p = a[0];
        TreeSet<Integer> k = now.knows.get(p);
        switch (name) {
            case "change":
                if (!isPupil(a[1]) || a[1] == p) return BAD;
                act();
                java.util.Collections.swap(now.seats, p, a[1]);
                return now.seats.get(p);
            case "forget":
                if (!isSubject(a[1])) return BAD;
                if (!k.contains(a[1])) return STATE;
                act();
                k.remove((Integer) a[1]);
                return bits(k);
            case "tell":
                if (!isSubject(a[1])) return BAD;
                if (k.contains(a[1])) return STATE;
                act();
                k.add(a[1]);
                return bits(k);
            case "pupil": return pupil(p, a[1]);
            case "heard": return isSubject(a[1]) ? now.timesHeard(p, a[1]) : BAD;
            case "ahead": {
                if (a[1] < 0 || a[1] > 60 || a[2] != -1 && !isSubject(a[2])) return BAD;
                Roll r = now.twin();
                for (int d = 0; d < a[1]; d++) r.pass(false);
                return a[2] == -1 ? bits(r.knows.get(p)) : r.timesHeard(p, a[2]);
            }
            case "when": {
                if (!isSubject(a[1])) return BAD;
                Roll r = now.twin();
                for (int d = 0; d <= 60; d++) {
                    if (r.knows.get(p).contains(a[1])) return d;
                    r.pass(false);
                }
                return NONE;
            }
            case "follows": {
                TreeSet<Integer> got = new TreeSet<>(k);
                for (int round = 0; round < 9; round++) {
                    for (int s = 0; s < now.needs.size(); s++) if (got.containsAll(now.needs.get(s))) got.add(s);
                }
                return bits(got);
            }
            case "lacks": {
                if (!isSubject(a[1])) return BAD;
                TreeSet<Integer> whole = new TreeSet<>();
                gather(a[1], whole);
                whole.removeAll(k);
                return bits(whole);
            }
            case "shortest": return isSubject(a[1]) && a[2] >= -1 ? shortest(k, a[1], a[2]) : BAD;
            case "fellows": {
                int others = 0;
                for (int q = 0; q < now.pupils(); q++) if (q != p && now.knows.get(q).equals(k)) others |= 1 << q;
                return others;
            }
            case "thought": return thought(p, a);
            case "kind": return SORTS.indexOf(now.sorts.charAt(p));
            case "ask": {
                if (a[1] != 0 && a[1] != 1) return BAD;
                Being b = new Being();
                b.form = k.size();
                b.number = p;
                b.seat = now.seats.get(p);
                b.trace = new ArrayList<>();
                trace = b.trace;
                Pupil one = pupilOf(now.sorts.charAt(p), b);
                return a[1] == 0 ? one.size() : one.mark();
            }
            default: throw new IllegalArgumentException(name);
        }
    }

    void gather(int s, TreeSet<Integer> whole) {
        if (whole.add(s)) for (int t : now.needs.get(s)) gather(t, whole);
    }

    long pupil(int p, int what) {
        TreeSet<Integer> k = now.knows.get(p);
        switch (what) {
            case 0: return bits(k);
            case 1: return now.seats.get(p);
            case 2: return k.size();
            case 3: return now.hears(p, now.lessonOf(now.day)) ? 1 : 0;
            case 4: {
                int g = 0;
                for (int s = 0; s < now.needs.size(); s++) if (k.containsAll(now.needs.get(s))) g |= 1 << s;
                return g;
            }
            default: return BAD;
        }
    }

    /** All rows, the shorter first, each length by numbers: the first that ends in knowing it. */
    long shortest(TreeSet<Integer> k, int subject, int which) {
        List<List<Integer>> rowsNow = new ArrayList<>();
        rowsNow.add(new ArrayList<>());
        for (int length = 0; length <= 6; length++) {
            List<List<Integer>> longer = new ArrayList<>();
            for (List<Integer> r : rowsNow) {
                TreeSet<Integer> got = new TreeSet<>(k);
                got.addAll(r);
                if (got.contains(subject)) return which == -1 ? r.size() : which < r.size() ? r.get(which) : NONE;
                for (int s = 0; s < now.needs.size(); s++) {
                    if (got.contains(s) || !got.containsAll(now.needs.get(s))) continue;
                    List<Integer> more = new ArrayList<>(r);
                    more.add(s);
                    longer.add(more);
                }
            }
            rowsNow = longer;
        }
        throw new IllegalStateException();
    }

    long thought(int p, int[] a) {
        if (!isSubject(a[1]) || a[2] < 0 || a[2] > 8 || a[3] < 0 || a[3] > 10 || a[4] != 0 && a[4] != 1) return BAD;
        BigInteger above = cases(now.twin(), p, a[1], a[2], a[3]);
        BigInteger below = BigInteger.TEN.pow(a[2]);
        BigInteger common = above.gcd(below);
        return (a[4] == 0 ? above : below).divide(common).longValueExact();
    }

    BigInteger cases(Roll r, int p, int s, int n, int tenths) {
        if (n == 0) return r.knows.get(p).contains(s) ? BigInteger.ONE : BigInteger.ZERO;
        Roll lost = r.twin();
        lost.pass(true);
        r.pass(false);
        return cases(lost, p, s, n - 1, tenths).multiply(BigInteger.valueOf(tenths))
            .add(cases(r, p, s, n - 1, tenths).multiply(BigInteger.valueOf(10 - tenths)));
    }
}
