import java.lang.reflect.Method;
import java.nio.file.Files;
import java.nio.file.Path;
import java.util.List;
import java.util.Map;
import java.util.TreeMap;
import java.util.TreeSet;
import java.util.regex.Matcher;
import java.util.regex.Pattern;

/** What README.md shows answers as it says; its tables are those of the class; it names every test. */
public final class ReadmeTest {
    private static final Pattern SHOWN = Pattern.compile("(roll\\.\\w+\\(.*\\)); *// (-?[0-9]+|[A-Z]{3,})(\\b.*)?");
    private static final Pattern REFUSAL = Pattern.compile("(?m)^\\| ([A-Z]{3,}) \\| (-[0-9]+)");

    public static void main(String[] args) throws Exception {
        Tally.sentence("1 to 41", "what it shows as an example answers as it says");
        examples();
        Tally.sentence("1 to 41", "what its answers and refusals are");
        numbersOfRefusals();
        calls();
        refusals();
        tests();
        Tally.end("ReadmeTest");
    }

    private static void due(String what, boolean so) {
        Tally.due(what, so ? 1 : 0, 1);
    }

    /** The lines of all examples as one class, each answer that is told looked at. */
    private static void examples() throws Exception {
        StringBuilder b = new StringBuilder("public final class Shown { public static void runs() {\n");
        int shown = 0;
        for (String line : Readme.exampleLines()) {
            Matcher m = SHOWN.matcher(line);
            if (m.matches()) {
                shown++;
                b.append("ReadmeTest.shown(\"").append(m.group(1)).append("\", ").append(m.group(1)).append(", \"").append(m.group(2)).append("\");\n");
            } else {
                due("an example that tells no answer: " + line, !line.contains("roll.") || line.startsWith("for "));
                b.append(line).append('\n');
            }
        }
        due("there are examples", shown > 0);
        byte[] bytes = Compiled.bytes("Shown", b.append("} }\n").toString());
        due("the examples compile", bytes != null);
        if (bytes != null) Class.forName("Shown", true, Compiled.loader(Map.of("Shown", bytes))).getMethod("runs").invoke(null);
    }

    /** Public, as the class of the examples is loaded apart. */
    public static void shown(String call, long got, String told) {
        boolean name = Character.isLetter(told.charAt(0));
        Tally.due(call, name ? Broken.refusal(got).equals(told) ? 1 : got : got, name ? 1 : Long.parseLong(told));
    }

    private static void numbersOfRefusals() {
        TreeSet<String> told = new TreeSet<>();
        Matcher m = REFUSAL.matcher(Readme.text());
        while (m.find()) {
            told.add(m.group(1));
            due("the number of " + m.group(1), Broken.refusal(Long.parseLong(m.group(2))).equals(m.group(1)));
        }
        due("all refusals are told: " + told,
            told.equals(new TreeSet<>(List.of("NONE", "BAD", "STATE", "FULL", "NULL", "PLACE", "KIND", "SIZE", "STORE", "FAULT"))));
        due("the constants", SnakeRoll.NONE == Run.NONE && SnakeRoll.BAD == Run.BAD && SnakeRoll.STATE == Run.STATE && SnakeRoll.FULL == Run.FULL);
    }

    /** The calls with the names of their numbers, as the class has them. */
    private static void calls() throws Exception {
        Map<String, String> face = new TreeMap<>();
        Matcher m = Pattern.compile("(?m)^    public (?:int|long) (\\w+)\\(([^)]*)\\) \\{$")
            .matcher(Files.readString(Path.of("src/main/java/SnakeRoll.java")));
        while (m.find()) face.put(m.group(1), m.group(2).replace("int ", ""));
        Map<String, String> told = Readme.numbers();
        due("the face has 40 calls", face.size() == 40);
        for (String call : face.keySet()) due(call + "(" + face.get(call) + ") is told as " + told.get(call), face.get(call).equals(told.get(call)));
        due("no call is told that there is not", told.size() == 40);
        for (Method method : Broken.face().values()) due(method.getName() + " is looked at", face.containsKey(method.getName()));
    }

    /** All that PromiseTest was answered in place of a number, and nothing else, is told. */
    private static void refusals() throws Exception {
        Map<String, TreeSet<String>> seen = new TreeMap<>();
        for (String call : Broken.face().keySet()) seen.put(call, new TreeSet<>());
        int wrong = new Stage().wrongBy((on, call, numbers) -> {
            long answer = on.sound(call, numbers);
            if (!Broken.refusal(answer).isEmpty()) seen.get(call).add(Broken.refusal(answer));
            return answer;
        });
        Tally.due("PromiseTest on a sound one", wrong, 0);
        Map<String, TreeSet<String>> told = Readme.refusals();
        for (String call : seen.keySet()) due(call + " answers " + seen.get(call) + ", told is " + told.get(call), seen.get(call).equals(told.get(call)));
    }

    private static void tests() throws Exception {
        String text = Readme.text();
        due("the command is told", text.contains("bash .ci/run") && Files.isExecutable(Path.of(".ci/run")));
        try (var files = Files.list(Path.of("src/test/java"))) {
            for (Path file : files.toList()) {
                String name = file.getFileName().toString().replace(".java", "");
                due(name + " is named", text.contains("`" + name + "`"));
            }
        }
    }
}
