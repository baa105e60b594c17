import java.util.List;

/**
 * "A call that throws changes nothing; where several exceptions that a call names fit, it is the one
 * that it names first; but before all others: IllegalStateException when there is no discriminant yet."
 * Each call is made in each state, and where it is refused the clock goes on as if it had not been made.
 */
public final class RefusedCallsTest {
    private static final String BOOK_ONE = "begin 3\nwork 3\nprove 3\npublish\n";

    private record State(String name, String calls) {
    }

    // The columns of TABLE, in its order.
    private static final List<State> STATES = List.of(
            new State("new", ""),
            new State("chosen", "discriminant 50007\n"),
            new State("squaring", "discriminant 49999\n" + BOOK_ONE + "put 0 2 1\nbegin 5\nwork 2\n"),
            new State("proving", "discriminant 999999999\n" + BOOK_ONE
                    + "put 0 2 1\nput 1 1 3\nbegin 40\nwork 40\nprove 20\n"),
            new State("proved", "discriminant 23\n" + BOOK_ONE
                    + "put 0 2 1\nput 1 1 3\nput 2 2 -1\nbegin 4\nwork 4\nprove 4\n"),
            new State("booked", "discriminant 47\n" + BOOK_ONE + "put 1 1 3\nput 2 2 -1\n"),
            new State("full", "discriminant 2047\n" + BOOK_ONE.repeat(16) + "put 0 2 1\nput 1 1 3\nput 2 2 -1\n"));

    // S IllegalStateException, A IllegalArgumentException, X IndexOutOfBoundsException,
    // N NoSuchElementException, . none.
    private static final String TABLE = """
            discriminant -2147483648: AAAAAAA
            discriminant -1: AAAAAAA
            discriminant 6: AAAAAAA
            discriminant 1000000007: AAAAAAA
            discriminant 2147483647: AAAAAAA
            discriminant 7: ..SSS..
            discriminant 999999999: ..SSS..
            begin -2147483648: SAAAAAA
            begin 0: SAAAAAA
            begin 501: SAAAAAA
            begin 2147483647: SAAAAAA
            begin 1: S.SSS.S
            begin 500: S.SSS.S
            work -2147483648: SAAAAAA
            work 0: SAAAAAA
            work 501: SAAAAAA
            work 2147483647: SAAAAAA
            work 1: SS.SSSS
            work 500: SS.SSSS
            prove -2147483648: SAAAAAA
            prove 0: SAAAAAA
            prove 501: SAAAAAA
            prove 2147483647: SAAAAAA
            prove 1: SSS.SSS
            prove 500: SSS.SSS
            publish: SSSS.SS
            drop: .......
            rounds: .......
            told -1 0: SX...XX
            told -1 2: SX...XX
            told -1 -1: SXXXXXX
            told -1 3: SXXXXXX
            told 0 0: SX.....
            told 0 2: SX.....
            told 0 -1: SXXXXXX
            told 0 3: SXXXXXX
            told 1 0: SXXXXX.
            told 15 1: SXXXXX.
            told 16 1: SXXXXXX
            told -2 0: SXXXXXX
            told -2147483648 2147483647: SXXXXXX
            form -1 0 0: SX...XX
            form -1 2 2: SX...XX
            form -1 3 0: SXXXXXX
            form -1 0 3: SXXXXXX
            form 0 0 0: SX.....
            form 0 2 2: SX.....
            form 0 -1 0: SXXXXXX
            form 0 3 0: SXXXXXX
            form 0 0 -1: SXXXXXX
            form 0 0 3: SXXXXXX
            form 1 1 1: SXXXXX.
            form 15 1 1: SXXXXX.
            form 16 1 1: SXXXXXX
            form -2 1 1: SXXXXXX
            verify -2147483648: SXXXXXX
            verify -1: SXXXXXX
            verify 0: SX.....
            verify 1: SXXXXX.
            verify 15: SXXXXX.
            verify 16: SXXXXXX
            verify 2147483647: SXXXXXX
            put -1 1 1: SXXXXXX
            put 3 1 1: SXXXXXX
            put 3 0 1: SXXXXXX
            put -1 1 100001: SXXXXXX
            put 0 0 1: SAAAAAA
            put 0 -1 1: SAAAAAA
            put 0 -2147483648 1: SAAAAAA
            put 0 100001 1: SAAAAAA
            put 0 1 0: SAAAAAA
            put 0 1 100000: SAAAAAA
            put 0 1 -100000: SAAAAAA
            put 0 1 100001: SAAAAAA
            put 0 1 -100001: SAAAAAA
            put 0 1 -2147483648: SAAAAAA
            put 0 1 1: S......
            put 2 1 -99999: S......
            buffer 0 0: SN...N.
            buffer 1 2: SNN....
            buffer 2 1: SNNN...
            buffer -1 0: SXXXXXX
            buffer 3 0: SXXXXXX
            buffer 0 -1: SXXXXXX
            buffer 0 3: SXXXXXX
            reduce 0 1: SN...N.
            reduce 1 0: SNN....
            reduce 2 2: SNNN...
            reduce -1 0: SXXXXXX
            reduce 3 0: SXXXXXX
            reduce 0 -1: SXXXXXX
            reduce 0 3: SXXXXXX
            multiply 0 0 0: SN...N.
            multiply 0 1 2: SNN..N.
            multiply 1 0 2: SNN..N.
            multiply 1 2 0: SNNN...
            multiply 2 1 0: SNNN...
            multiply -1 0 0: SXXXXXX
            multiply 3 0 0: SXXXXXX
            multiply 0 -1 0: SXXXXXX
            multiply 0 3 0: SXXXXXX
            multiply 0 0 -1: SXXXXXX
            multiply 0 0 3: SXXXXXX
            raise 0 0 1: SN...N.
            raise 0 1 0: SN...N.
            raise 1 2147483647 2: SNN....
            raise 2 0 2: SNNN...
            raise 0 -1 0: SAAAAAA
            raise 0 -2147483648 0: SAAAAAA
            raise -1 -1 0: SXXXXXX
            raise 3 1 0: SXXXXXX
            raise 0 1 -1: SXXXXXX
            raise 0 -1 3: SXXXXXX
            test -2147483648: SXXXXXX
            test -1: SXXXXXX
            test 0: SXNN.N.
            test 1: SXXXXX.
            test 15: SXXXXX.
            test 16: SXXXXXX
            order -2147483648: SAAAAAA
            order 0: SAAAAAA
            order 1001: SAAAAAA
            order 2147483647: SAAAAAA
            order 1: S......
            order 1000: S......
            classes: SA.A...
            """;

    private final Check check = new Check();

    public static void main(String[] args) {
        RefusedCallsTest test = new RefusedCallsTest();
        for (String row : TABLE.split("\n")) {
            String[] halves = row.split(": ");
            test.check.numbers("columns of " + row, halves[1].length(), STATES.size());
            for (int column = 0; column < STATES.size(); column++) {
                test.cell(halves[0], STATES.get(column), halves[1].charAt(column));
            }
        }
        test.check.end("RefusedCallsTest");
    }

    private void cell(String call, State state, char due) {
        String what = state.name + ", " + call;
        SquaringClock clock = in(state);
        String got = Script.outcome(clock, call);
        if (due == '.') {
            check.due(what + " throws", got.endsWith("Exception"), false);
        } else {
            check.due(what, got, exception(due));
            check.due(what + ", and then", story(clock), story(in(state)));
        }
    }

    private static String exception(char letter) {
        return switch (letter) {
            case 'S' -> "IllegalStateException";
            case 'A' -> "IllegalArgumentException";
            case 'X' -> "IndexOutOfBoundsException";
            default -> "NoSuchElementException";
        };
    }

    private SquaringClock in(State state) {
        SquaringClock clock = new SquaringClock();
        if (!state.calls.isEmpty()) {
            Script.runOn(check, state.name, clock, state.calls);
        }
        return clock;
    }

    /** What can be seen of the clock, and what comes of it when its round goes on to the end. */
    private static String story(SquaringClock clock) {
        StringBuilder told = new StringBuilder();
        tellRounds(told, clock);
        for (int i = 0; i < 3; i++) {
            for (int part = 0; part < 3; part++) {
                tell(told, clock, "buffer " + i + " " + part);
            }
        }
        for (String call : List.of("order 20", "work 500", "prove 500", "publish", "test 0", "begin 9", "work 4")) {
            tell(told, clock, call);
        }
        tellRounds(told, clock);
        return told.toString();
    }

    private static void tellRounds(StringBuilder told, SquaringClock clock) {
        tell(told, clock, "rounds");
        for (int round : new int[] {-1, 0, 1, 15}) {
            for (int i = 0; i < 3; i++) {
                tell(told, clock, "told " + round + " " + i);
                tell(told, clock, "form " + round + " " + i + " 0");
                tell(told, clock, "form " + round + " " + i + " 1");
                tell(told, clock, "form " + round + " " + i + " 2");
            }
        }
    }

    private static void tell(StringBuilder told, SquaringClock clock, String call) {
        told.append(call).append(" = ").append(Script.outcome(clock, call)).append("; ");
    }
}
