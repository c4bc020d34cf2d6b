import java.lang.reflect.Constructor;
import java.lang.reflect.Field;
import java.lang.reflect.Method;
import java.lang.reflect.Modifier;
import java.nio.charset.StandardCharsets;
import java.nio.file.Files;
import java.nio.file.Path;
import java.util.ArrayList;
import java.util.IdentityHashMap;
import java.util.List;
import java.util.Map;
import java.util.TreeSet;
import java.util.regex.Matcher;
import java.util.regex.Pattern;

/** The face of the document, the rules of LANGUAGE.md that can be seen from outside, and the room that an object takes. */
public final class RulesTest {
    private static final String FACE =
        "int row(int,int,int)|int set(int,int,int)|int copy(int,int,int,int,int)|int drop(int)|int feed(int)|int school()|int fault()"
        + "|int undo()|int days(int)|int change(int,int)|int teach(int,int)|int forget(int,int)|int tell(int,int)|int pupil(int,int)"
        + "|int heard(int,int)|int subject(int)|int lesson(int)|int ahead(int,int,int)|int when(int,int)|int all(int)|int follows(int)"
        + "|int lacks(int,int)|int shortest(int,int,int)|int seating(int,int)|int table(int,int)|int questions(int)|int top(int)"
        + "|int fellows(int)|int who(int,int,int,int,int)|int what(int,int,int,int,int)|long thought(int,int,int,int,int)"
        + "|int drawn(int,int,int)|int image(int)|int restore(int)|int kind(int)|int as(int,int)|int ask(int,int)|int trace(int)"
        + "|int count(int)|int status()";

    private static int wrong;

    private static void check(boolean so, String what) {
        if (!so) {
            wrong++;
            System.out.println("rules: " + what);
        }
    }

    public static void main(String[] args) throws Exception {
        face();
        classes();
        source();
        room();
        System.out.println("RulesTest: " + wrong + " wrong");
        if (wrong != 0) System.exit(1);
    }

    private static void face() throws Exception {
        Class<?> c = SnakeRoll.class;
        check(Modifier.isPublic(c.getModifiers()) && Modifier.isFinal(c.getModifiers()), "the class is public and final");
        TreeSet<String> due = new TreeSet<>(List.of(FACE.split("\\|")));
        TreeSet<String> there = new TreeSet<>();
        for (Method m : c.getDeclaredMethods()) {
            if (Modifier.isPrivate(m.getModifiers()) || m.isSynthetic()) continue;
            StringBuilder b = new StringBuilder(m.getReturnType() + " " + m.getName() + "(");
            for (int i = 0; i < m.getParameterCount(); i++) b.append(i == 0 ? "" : ",").append(m.getParameterTypes()[i]);
            there.add(b.append(")").toString());
            check(Modifier.isPublic(m.getModifiers()), m + " is public");
        }
        check(due.equals(there), "the face is " + there);
        Constructor<?>[] made = c.getDeclaredConstructors();
        check(made.length == 1 && made[0].getParameterCount() == 0 && Modifier.isPublic(made[0].getModifiers()), "one constructor");
        TreeSet<String> constants = new TreeSet<>();
        for (Field f : c.getDeclaredFields()) {
            if (!Modifier.isPrivate(f.getModifiers())) constants.add(f.getName());
        }
        check(constants.equals(new TreeSet<>(List.of("NONE", "BAD", "STATE", "FULL"))), "the constants are " + constants);
        check(SnakeRoll.NONE == -1000000 && SnakeRoll.BAD == -1000001, "NONE, BAD");
        check(SnakeRoll.STATE == -1000002 && SnakeRoll.FULL == -1000003, "STATE, FULL");
    }

    private static void classes() {
        TreeSet<String> faceNames = new TreeSet<>();
        for (Method m : SnakeRoll.class.getDeclaredMethods()) if (Modifier.isPublic(m.getModifiers())) faceNames.add(m.getName());
        List<Class<?>> all = new ArrayList<>(List.of(SnakeRoll.class));
        all.addAll(List.of(SnakeRoll.class.getDeclaredClasses()));
        check(all.size() <= 12, "at most twelve classes");
        for (Class<?> c : all) {
            int fields = 0;
            for (Field f : c.getDeclaredFields()) {
                if (Modifier.isStatic(f.getModifiers())) {
                    check(Modifier.isFinal(f.getModifiers()), f + " is final");
                } else {
                    fields++;
                }
            }
            check(fields <= 20, c + " has at most twenty fields");
            check(c == SnakeRoll.class || Modifier.isStatic(c.getModifiers()), c + " is static");
            for (Method m : c.getDeclaredMethods()) {
                check(m.getParameterCount() <= 7, m + " takes at most seven");
                check(Modifier.isPublic(m.getModifiers()) || !faceNames.contains(m.getName()), m + " bears a name of the face");
            }
        }
    }

    private static void source() throws Exception {
        String text = Files.readString(Path.of("src/main/java/SnakeRoll.java"), StandardCharsets.US_ASCII);
        String code = text.replaceAll("(?s)/\\*.*?\\*/", "").replaceAll("//[^\n]*", "");
        for (String word : List.of("throw", "throws", "try", "catch", "synchronized", "assert", "package", "import", "double", "float",
            "equals", "hashCode", "toString", "protected", "Object", "Random", "Thread", "yield", "var")) {
            check(!Pattern.compile("\\b" + word + "\\b").matcher(code).find(), "the word " + word);
        }
        for (String sign : List.of("->", "::", "Exact(", "\"")) check(!code.contains(sign), "the sign " + sign);
        TreeSet<String> library = new TreeSet<>();
        Matcher m = Pattern.compile("\\b(System|Integer|Long|Math|Arrays|String|StringBuilder|List|ArrayList)\\.(\\w+)").matcher(code);
        while (m.find()) library.add(m.group());
        check(List.of("Integer.bitCount", "System.arraycopy").containsAll(library), "the library: " + library);
        int from = 0;
        String[] lines = text.split("\n");
        for (int i = 0; i < lines.length; i++) {
            if (lines[i].matches(" {4}( {4})?(public|private|static|void|int|long|boolean|[A-Z]\\w+) ?.*\\) \\{")) from = i;
            if (lines[i].matches(" {4}( {4})?\\}")) check(i - from <= 60 || lines[i].length() == 5, "a method of over 60 lines ends at " + (i + 1));
        }
    }

    /** Counts objects, and fields with elements, of a new object; and that calls make none that stays. */
    private static void room() throws Exception {
        SnakeRoll x = new SnakeRoll();
        long[] made = size(x);
        check(made[0] < 400, "a new object makes " + made[0] + " objects");
        check(made[1] < 5000, "a new object takes " + made[1] + " fields and elements");
        String code = Files.readString(Path.of("src/main/java/SnakeRoll.java")).replaceAll("//[^\n]*", "");
        Matcher m = Pattern.compile("\\bnew \\w+").matcher(code);
        int news = 0;
        while (m.find()) news++;
        m = Pattern.compile("(final [^;=]+ = new|rows\\[i\\] = new|images\\[k\\] = new|before\\[i\\] = new) \\w+").matcher(code);
        int inConstructors = 0;
        while (m.find()) inConstructors++;
        check(news == inConstructors, "objects are made in constructors alone: " + news + ", " + inConstructors);
    }

    private static long[] size(Object root) throws Exception {
        Map<Object, Boolean> seen = new IdentityHashMap<>();
        List<Object> open = new ArrayList<>(List.of(root));
        seen.put(root, true);
        long cells = 0;
        while (!open.isEmpty()) {
            Object o = open.remove(open.size() - 1);
            List<Object> parts = new ArrayList<>();
            if (o.getClass().isArray()) {
                int n = java.lang.reflect.Array.getLength(o);
                cells += n;
                if (!o.getClass().getComponentType().isPrimitive()) parts.addAll(java.util.Arrays.asList((Object[]) o));
            } else {
                for (Field f : o.getClass().getDeclaredFields()) {
                    if (Modifier.isStatic(f.getModifiers())) continue;
                    cells++;
                    f.setAccessible(true);
                    if (!f.getType().isPrimitive()) parts.add(f.get(o));
                }
            }
            for (Object p : parts) {
                if (p != null && seen.put(p, true) == null) open.add(p);
            }
        }
        return new long[] {seen.size(), cells};
    }
}
