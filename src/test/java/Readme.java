import java.io.IOException;
import java.io.UncheckedIOException;
import java.nio.file.Files;
import java.nio.file.Path;
import java.util.ArrayList;
import java.util.LinkedHashMap;
import java.util.List;
import java.util.Map;
import java.util.TreeSet;
import java.util.regex.Matcher;
import java.util.regex.Pattern;

/** What README.md tells: its examples, and the table of calls with what each answers in place of a number. */
final class Readme {
    private static final Pattern EXAMPLE = Pattern.compile("(?ms)^```java\n(.*?)^```");
    private static final Pattern CALL = Pattern.compile("(?m)^\\| `(\\w+)\\(([^)]*)\\)` \\|.*\\| ([^|]*) \\|$");

    private Readme() {
    }

    static String text() {
        try {
            return Files.readString(Path.of("README.md"));
        } catch (IOException e) {
            throw new UncheckedIOException(e);
        }
    }

    static List<String> exampleLines() {
        List<String> lines = new ArrayList<>();
        Matcher m = EXAMPLE.matcher(text());
        while (m.find()) lines.addAll(List.of(m.group(1).split("\n")));
        return lines;
    }

    /** By call the names of its numbers, as one text. */
    static Map<String, String> numbers() {
        Map<String, String> calls = new LinkedHashMap<>();
        Matcher m = CALL.matcher(text());
        while (m.find()) calls.put(m.group(1), m.group(2));
        return calls;
    }

    /** By call all that it may answer in place of a number, by name. */
    static Map<String, TreeSet<String>> refusals() {
        Map<String, TreeSet<String>> calls = new LinkedHashMap<>();
        Matcher m = CALL.matcher(text());
        while (m.find()) {
            TreeSet<String> names = new TreeSet<>();
            Matcher name = Pattern.compile("[A-Z]{3,}").matcher(m.group(3));
            while (name.find()) names.add(name.group());
            calls.put(m.group(1), names);
        }
        return calls;
    }
}
