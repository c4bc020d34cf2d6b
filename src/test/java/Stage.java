import java.io.IOException;
import java.io.InputStream;
import java.io.OutputStream;
import java.io.PrintStream;
import java.lang.reflect.Method;
import java.util.Map;

/** Runs PromiseTest on a SnakeRoll whose answers go by a slip. */
final class Stage {
    /** The slip that is tried now; a SnakeRoll is made without a number, so it cannot be handed to it. */
    static Broken.Slip slip;

    private final byte[] roll;
    private final byte[] test;

    Stage() throws IOException {
        roll = Compiled.bytes("SnakeRoll", source());
        try (InputStream in = Stage.class.getResourceAsStream("PromiseTest.class")) {
            test = in.readAllBytes();
        }
    }

    /** How many answers PromiseTest finds wrong. */
    int wrongBy(Broken.Slip tried) throws Exception {
        slip = tried;
        Method answers = Class.forName("PromiseTest", true, Compiled.loader(Map.of("SnakeRoll", roll, "PromiseTest", test)))
            .getDeclaredMethod("wrongAnswers");
        answers.setAccessible(true);
        PrintStream out = System.out;
        System.setOut(new PrintStream(OutputStream.nullOutputStream()));
        try {
            return (Integer) answers.invoke(null);
        } finally {
            System.setOut(out);
        }
    }

    private static String source() {
        StringBuilder b = new StringBuilder("public final class SnakeRoll {\n    private final Broken broken = new Broken();\n");
        for (Method m : Broken.face().values()) {
            b.append("    public ").append(m.getReturnType()).append(' ').append(m.getName()).append('(');
            for (int i = 0; i < m.getParameterCount(); i++) b.append(i == 0 ? "" : ", ").append("int n").append(i);
            b.append(") { return (").append(m.getReturnType()).append(") broken.answer(\"").append(m.getName()).append('"');
            for (int i = 0; i < m.getParameterCount(); i++) b.append(", n").append(i);
            b.append("); }\n");
        }
        return b.append("}\n").toString();
    }
}
