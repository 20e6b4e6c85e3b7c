import java.io.IOException;
import java.nio.file.Files;
import java.nio.file.Path;
import java.util.Set;
import java.util.TreeSet;
import java.util.regex.Matcher;
import java.util.regex.Pattern;

/**
 * Writes a test out of README.md: its java parts as they stand, each in a method of its own, with every call that
 * is shown with an answer held against that answer. So README.md can't show a call that is not tested.
 */
public final class ReadmeCalls {
    private static final Pattern CALL_WITH_COMMENT = Pattern.compile("(x\\.(\\w+)\\(.*\\)); *// *(.*)");
    private static final Pattern ANSWER = Pattern.compile("(-?\\d+|true|false)(: .*)?");
    private static final Pattern EXCEPTION = Pattern.compile("throws (\\w+)(: .*)?");
    private static final String[] FACE = {"edge", "nibble", "check", "slow", "row", "calibrate", "parity", "bounce",
        "faults", "marked", "turn"};

    private final StringBuilder test = new StringBuilder("public final class ReadmeTest {\n");
    private final Set<String> shown = new TreeSet<>();
    private int parts = 0;
    private boolean inPart = false;

    public static void main(String[] args) throws IOException {
        ReadmeCalls calls = new ReadmeCalls();
        int number = 0;
        for (String line : Files.readAllLines(Path.of(args[0]))) {
            number++;
            calls.take(line, args[0] + " line " + number);
        }
        calls.end();
        System.out.print(calls.test);
    }

    private void take(String line, String where) {
        if (!inPart) {
            if (line.equals("```java")) {
                inPart = true;
                parts++;
                test.append("    private static void part").append(parts).append("() {\n");
            }
        } else if (line.equals("```")) {
            inPart = false;
            test.append("    }\n");
        } else {
            test.append("        ").append(tested(line, where)).append('\n');
        }
    }

    private String tested(String line, String where) {
        Matcher call = CALL_WITH_COMMENT.matcher(line.trim());
        if (!call.matches()) {
            return line;
        }
        shown.add(call.group(2));
        String name = "\"" + where + ": " + call.group(1) + "\", ";
        Matcher answer = ANSWER.matcher(call.group(3));
        if (answer.matches()) {
            return "Due.is(" + name + call.group(1) + ", " + answer.group(1) + ");";
        }
        Matcher exception = EXCEPTION.matcher(call.group(3));
        if (exception.matches()) {
            return "Due.callThrows(" + name + "() -> " + call.group(1) + ", " + exception.group(1) + ".class);";
        }
        throw new IllegalStateException(where + " shows a call without an answer: " + line);
    }

    private void end() {
        if (inPart) {
            throw new IllegalStateException("the last java part has no end");
        }
        for (String method : FACE) {
            if (!shown.contains(method)) {
                throw new IllegalStateException("no answer of " + method + " is shown");
            }
        }
        test.append("    public static void main(String[] args) {\n");
        for (int part = 1; part <= parts; part++) {
            test.append("        part").append(part).append("();\n");
        }
        test.append("        Due.end();\n    }\n}\n");
    }
}
