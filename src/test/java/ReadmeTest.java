import java.io.IOException;
import java.nio.file.Files;
import java.nio.file.Path;
import java.util.ArrayList;
import java.util.List;
import java.util.regex.Matcher;
import java.util.regex.Pattern;

/** The calls that README.md shows, in its order, answer what it says behind them. */
public final class ReadmeTest {
    private static final String FIRST_LINE = "SquaringClock clock = new SquaringClock();";
    // What stands behind "//" is an answer if a number, true or false comes first.
    private static final Pattern CALL = Pattern.compile(
            "clock\\.(\\w+)\\(([^()]*)\\);(?: *// (?:(-?\\d+|true|false)(?:: .*)?|.*))?");
    private static final int LEAST_CALLS = 20;

    public static void main(String[] args) throws IOException {
        Check check = new Check();
        List<String> calls = new ArrayList<>();
        for (String line : javaLines(Files.readAllLines(Path.of("README.md")))) {
            Matcher call = CALL.matcher(line);
            if (call.matches()) {
                calls.add(asScript(call));
            } else {
                check.due("a line that is no call", line, FIRST_LINE);
            }
        }
        check.due("calls were found", calls.size() >= LEAST_CALLS, true);
        Script.run(check, "README.md", String.join("\n", calls));
        check.end("ReadmeTest");
    }

    private static List<String> javaLines(List<String> page) {
        List<String> lines = new ArrayList<>();
        boolean inside = false;
        for (String line : page) {
            if (line.startsWith("```")) {
                inside = line.equals("```java");
            } else if (inside) {
                lines.add(line);
            }
        }
        return lines;
    }

    private static String asScript(Matcher call) {
        String numbers = call.group(2).replace("SquaringClock.NONE", "-1").replace(",", "");
        String asked = (call.group(1) + " " + numbers).trim();
        return call.group(3) == null ? asked : asked + " -> " + call.group(3);
    }
}
