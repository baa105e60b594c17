import java.util.concurrent.Callable;

/** Counts and prints answers that are not as due. */
final class Check {
    private static final int MOST_PRINTED = 20;
    private int wrong = 0;

    interface Call {
        void run();
    }

    void due(String what, Object got, Object want) {
        if (!got.equals(want)) {
            wrong++;
            if (wrong <= MOST_PRINTED) {
                System.out.println(what + ": got " + got + ", due is " + want);
            }
        }
    }

    void numbers(String what, long got, long want) {
        due(what, got, want);
    }

    void throwing(String what, Class<? extends Exception> want, Call call) {
        due(what, outcome(() -> {
            call.run();
            return "nothing thrown";
        }), thrown(want));
    }

    static String thrown(Class<? extends Exception> kind) {
        return "throws " + kind.getSimpleName();
    }

    /** The answer as a text, or the kind of exception: what two clocks can be compared by. */
    static String outcome(Callable<?> call) {
        try {
            return String.valueOf(call.call());
        } catch (Exception e) {
            return thrown(e.getClass());
        }
    }

    void end(String name) {
        System.out.println(name + ": " + (wrong == 0 ? "all as due" : wrong + " not as due"));
        if (wrong != 0) {
            System.exit(1);
        }
    }
}
