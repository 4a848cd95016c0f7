import java.io.IOException;
import java.lang.reflect.Method;
import java.lang.reflect.Modifier;
import java.nio.file.DirectoryStream;
import java.nio.file.Files;
import java.nio.file.Path;
import java.util.HashMap;
import java.util.List;
import java.util.Map;
import java.util.Set;
import java.util.TreeSet;
import java.util.regex.Matcher;
import java.util.regex.Pattern;

/** README.md: each call that it shows answers what it shows, and it leaves out no call and no test. */
public final class ReadmeTests {
    private static final Checks CHECKS = new Checks("ReadmeTests");
    private static final String MAKING = "PushStick stick = new PushStick();";
    /** Every other line of an example; the form is narrow, so that what fits is Java too. */
    private static final Pattern ROW =
        Pattern.compile("(?:int (\\w+) = )?stick\\.(\\w+)\\(([^()]*)\\);\\s+// (-?\\d+|[A-Z]+)(?:: .*)?");
    private static final Pattern TABLE_ROW = Pattern.compile("\\| `(\\w+)\\(([^()]*)\\)` \\|.*");
    private static final Map<String, Integer> CONSTANTS = Map.of("UNKNOWN", -1, "OUTSIDE", -2, "STATE", -3, "FULL", -4,
        "NONE", -9);

    private final Set<String> shown = new TreeSet<>();
    private final Map<String, Integer> named = new HashMap<>();
    private PushStick stick = null;

    public static void main(String[] args) throws IOException {
        List<String> lines = Files.readAllLines(Path.of("README.md"));
        ReadmeTests readme = new ReadmeTests();
        readme.examples(lines);
        Set<String> face = face();
        CHECKS.holds("every call is shown: " + readme.shown, readme.shown.equals(face));
        Set<String> listed = table(lines);
        CHECKS.holds("every call is listed: " + listed, listed.equals(face));
        tests(String.join("\n", lines));
        CHECKS.end();
    }

    private void examples(List<String> lines) {
        boolean inside = false;
        for (int i = 0; i < lines.size(); i++) {
            String line = lines.get(i);
            if (line.startsWith("```")) {
                inside = line.equals("```java");
                stick = null;
                named.clear();
            } else if (inside) {
                example("line " + (i + 1) + ": " + line, line);
            }
        }
    }

    private void example(String at, String line) {
        if (line.equals(MAKING)) {
            stick = new PushStick();
            return;
        }
        Matcher row = ROW.matcher(line);
        if (stick == null || !row.matches()) {
            CHECKS.holds("is a call with its answer, " + at, false);
            return;
        }
        int[] args = numbers(at, row.group(3));
        int got = new Call(row.group(2), args).on(stick);
        shown.add(row.group(2) + "/" + args.length);
        Integer due = CONSTANTS.get(row.group(4));
        CHECKS.due(at, got, due != null ? due : Integer.parseInt(row.group(4)));
        if (row.group(1) != null) {
            named.put(row.group(1), got);
        }
    }

    private int[] numbers(String at, String list) {
        if (list.isEmpty()) {
            return new int[0];
        }
        String[] parts = list.split(", ");
        int[] numbers = new int[parts.length];
        for (int i = 0; i < parts.length; i++) {
            numbers[i] = number(at, parts[i]);
        }
        return numbers;
    }

    private int number(String at, String part) {
        if (named.containsKey(part)) {
            return named.get(part);
        }
        if (part.startsWith("PushStick.")) {
            Integer constant = CONSTANTS.get(part.substring("PushStick.".length()));
            CHECKS.holds("a constant of the class, " + at, constant != null);
            return constant == null ? 0 : constant;
        }
        return Integer.parseInt(part);
    }

    private static Set<String> table(List<String> lines) {
        Set<String> calls = new TreeSet<>();
        for (String line : lines) {
            Matcher row = TABLE_ROW.matcher(line);
            if (row.matches()) {
                int count = row.group(2).isEmpty() ? 0 : row.group(2).split(", ").length;
                calls.add(row.group(1) + "/" + count);
            }
        }
        return calls;
    }

    private static Set<String> face() {
        Set<String> calls = new TreeSet<>();
        for (Method m : PushStick.class.getDeclaredMethods()) {
            if (Modifier.isPublic(m.getModifiers())) {
                calls.add(m.getName() + "/" + m.getParameterCount());
            }
        }
        return calls;
    }

    private static void tests(String text) throws IOException {
        CHECKS.holds("says how to run the tests", text.contains("\n    .ci/run\n"));
        try (DirectoryStream<Path> files = Files.newDirectoryStream(Path.of("src/test/java"), "*Tests.java")) {
            for (Path file : files) {
                String name = file.getFileName().toString().replace(".java", "");
                CHECKS.holds("says what " + name + " is", text.contains("- `" + name + "`: "));
            }
        }
    }
}
