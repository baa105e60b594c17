import java.lang.reflect.InvocationTargetException;
import java.lang.reflect.Method;
import java.util.Arrays;

/**
 * Calls written as texts: "begin 3" calls begin(3), and "begin 3 -> 7584" says what is due. A due
 * answer may be an exception's name; a call with nothing due behind it must only not throw. Two texts
 * stand for three calls each: "show 0" for all of buffer 0, "look -1 2" for all of form -1 2.
 */
final class Script {
    private static final String ARROW = " -> ";

    private Script() {
    }

    /** What the call answers, or the exception's name. */
    static String outcome(Object clock, String call) {
        if (call.startsWith("show ")) {
            return allParts(clock, call.replace("show ", "buffer "));
        }
        if (call.startsWith("look ")) {
            return allParts(clock, call.replace("look ", "form "));
        }
        String[] words = call.trim().split(" +");
        Object[] arguments = Arrays.stream(words).skip(1).map(Integer::valueOf).toArray();
        try {
            return String.valueOf(method(clock, words[0]).invoke(clock, arguments));
        } catch (InvocationTargetException e) {
            return e.getCause().getClass().getSimpleName();
        } catch (IllegalAccessException e) {
            throw new IllegalArgumentException(call, e);
        }
    }

    private static String allParts(Object clock, String call) {
        String first = outcome(clock, call + " 0");
        if (first.endsWith("Exception")) {
            return first;
        }
        return first + " " + outcome(clock, call + " 1") + " " + outcome(clock, call + " 2");
    }

    private static Method method(Object clock, String name) {
        return Arrays.stream(clock.getClass().getDeclaredMethods())
                .filter(method -> method.getName().equals(name)).findFirst().orElseThrow();
    }

    /** Runs the lines on a new program, and on a slow clock too, so that no due answer is a slip. */
    static void run(Check check, String sentence, String lines) {
        runOn(check, sentence, new SquaringClock(), lines);
        runOn(check, sentence + " (slow clock)", new SlowClock(), lines);
    }

    static void runOn(Check check, String sentence, Object clock, String lines) {
        for (String line : lines.split("\n")) {
            String[] halves = line.split(ARROW);
            String got = outcome(clock, halves[0]);
            String what = sentence + ": " + halves[0];
            if (halves.length == 2) {
                check.due(what, got, halves[1]);
            } else {
                check.due(what + " throws", got.endsWith("Exception"), false);
            }
        }
    }
}
