import java.util.List;
import java.util.Random;
import java.util.Set;
import java.util.TreeSet;
import java.util.concurrent.Callable;

/** Runs of calls drawn from a fixed seed, the same ones on the program and on the slow clock. */
public final class RandomRunsTest {
    private static final int RUNS = 60;
    private static final int CALLS = 512;
    private static final int[] SMALL_D = {7, 15, 23, 31, 39, 47, 63, 71, 135, 175, 231, 255, 2047, 2079, 5103, 49999};
    private static final int[] LARGE_D = {50007, 65535, 999983, 99999999, 999999999, 999999991, 1000000000 - 17};

    private final Check check;
    private final Set<String> seen;
    private final Random random;
    private final SquaringClock clock = new SquaringClock();
    private final SlowClock slow = new SlowClock();
    private final int run;
    private int d = 7;
    private int calls = 0;

    private RandomRunsTest(int run, Check check, Set<String> seen) {
        this.run = run;
        this.check = check;
        this.seen = seen;
        random = new Random(run);
    }

    public static void main(String[] args) {
        Check check = new Check();
        Set<String> seen = new TreeSet<>();
        for (int run = 0; run < RUNS; run++) {
            new RandomRunsTest(run, check, seen).runCalls();
        }
        // Runs that never meet these would say little.
        for (String outcome : List.of("test 0", "test 1", "test 2", "test 3", "publish 16", "drop true",
                "begin throws IllegalStateException", "begin throws IllegalArgumentException",
                "multiply throws NoSuchElementException", "form throws IndexOutOfBoundsException")) {
            check.due("met in the runs: " + outcome, seen.contains(outcome), true);
        }
        check.end("RandomRunsTest");
    }

    private void runCalls() {
        if (random.nextInt(4) > 0) {
            chooseDiscriminant();
        }
        while (calls < CALLS) {
            if (random.nextInt(6) == 0) {
                wholeRound();
            } else {
                anyCall();
            }
        }
    }

    private void both(String what, Callable<?> program, Callable<?> model) {
        if (calls >= CALLS) {
            return;
        }
        calls++;
        String want = Check.outcome(model);
        seen.add(what.split(" ")[0] + " " + want);
        check.due("run " + run + " call " + calls + ", -" + d + ": " + what, Check.outcome(program), want);
    }

    private static Callable<String> quiet(Check.Call call) {
        return () -> {
            call.run();
            return "nothing thrown";
        };
    }

    private void chooseDiscriminant() {
        int n = switch (random.nextInt(6)) {
            case 0 -> random.nextInt(1000000010);
            case 1 -> random.nextInt(-20, 20);
            case 2 -> LARGE_D[random.nextInt(LARGE_D.length)];
            case 3 -> 7 + 8 * random.nextInt(125000000);
            default -> SMALL_D[random.nextInt(SMALL_D.length)];
        };
        if (n >= 7 && n % 8 == 7) {
            d = n;
        }
        both("discriminant " + n, quiet(() -> clock.discriminant(n)), quiet(() -> slow.discriminant(n)));
    }

    private int turns() {
        return switch (random.nextInt(8)) {
            case 0 -> random.nextInt(-1, 2);
            case 1 -> random.nextInt(499, 502);
            default -> random.nextInt(1, 30);
        };
    }

    private int slot() {
        return random.nextInt(12) == 0 ? random.nextInt(-1, 4) : random.nextInt(3);
    }

    private int round() {
        int booked = slow.rounds();
        return booked == 0 || random.nextInt(4) == 0 ? random.nextInt(-2, booked + 2) : random.nextInt(booked);
    }

    private void wholeRound() {
        int t = random.nextInt(1, 40);
        both("begin " + t, () -> clock.begin(t), () -> slow.begin(t));
        int n = random.nextInt(1, t + 1);
        both("work " + n, () -> clock.work(n), () -> slow.work(n));
        both("work 500", () -> clock.work(500), () -> slow.work(500));
        int m = random.nextInt(1, t + 1);
        both("prove " + m, () -> clock.prove(m), () -> slow.prove(m));
        both("prove 500", () -> clock.prove(500), () -> slow.prove(500));
        both("publish", clock::publish, slow::publish);
    }

    private void anyCall() {
        switch (random.nextInt(20)) {
            case 0 -> {
                if (random.nextInt(5) == 0) {
                    chooseDiscriminant();
                }
            }
            case 1 -> {
                int t = turns();
                both("begin " + t, () -> clock.begin(t), () -> slow.begin(t));
            }
            case 2 -> {
                int n = turns();
                both("work " + n, () -> clock.work(n), () -> slow.work(n));
            }
            case 3 -> {
                int n = turns();
                both("prove " + n, () -> clock.prove(n), () -> slow.prove(n));
            }
            case 4 -> both("publish", clock::publish, slow::publish);
            case 5 -> {
                if (random.nextInt(3) == 0) {
                    both("drop", clock::drop, slow::drop);
                }
            }
            case 6 -> both("rounds", clock::rounds, slow::rounds);
            case 7 -> {
                int r = round();
                int what = slot();
                both("told " + r + " " + what, () -> clock.told(r, what), () -> slow.told(r, what));
            }
            case 8, 9, 10 -> {
                int r = round();
                int which = slot();
                int part = slot();
                both("form " + r + " " + which + " " + part,
                        () -> clock.form(r, which, part), () -> slow.form(r, which, part));
            }
            case 11 -> {
                int r = round();
                both("verify " + r, () -> clock.verify(r), () -> slow.verify(r));
            }
            case 12, 13 -> putSomething();
            case 14 -> {
                int i = slot();
                int part = slot();
                both("buffer " + i + " " + part, () -> clock.buffer(i, part), () -> slow.buffer(i, part));
            }
            case 15 -> {
                int i = slot();
                int k = slot();
                both("reduce " + i + " " + k, quiet(() -> clock.reduce(i, k)), quiet(() -> slow.reduce(i, k)));
                readSlot(k);
            }
            case 16 -> {
                int i = slot();
                int j = slot();
                int k = slot();
                both("multiply " + i + " " + j + " " + k,
                        quiet(() -> clock.multiply(i, j, k)), quiet(() -> slow.multiply(i, j, k)));
                readSlot(k);
            }
            case 17 -> {
                int i = slot();
                int n = random.nextInt(4) == 0 ? random.nextInt() : random.nextInt(-1, 10);
                int k = slot();
                both("raise " + i + " " + n + " " + k,
                        quiet(() -> clock.raise(i, n, k)), quiet(() -> slow.raise(i, n, k)));
                readSlot(k);
            }
            case 18 -> testSomething();
            default -> {
                if (random.nextInt(4) == 0) {
                    int most = random.nextInt(6) == 0 ? random.nextInt(998, 1003) : random.nextInt(-1, 200);
                    both("order " + most, () -> clock.order(most), () -> slow.order(most));
                    both("classes", clock::classes, slow::classes);
                }
            }
        }
    }

    private void readSlot(int k) {
        for (int part = 0; part < 3; part++) {
            int p = part;
            both("buffer " + k + " " + p, () -> clock.buffer(k, p), () -> slow.buffer(k, p));
        }
    }

    private void putSomething() {
        int i = slot();
        int a = random.nextInt(1, 40);
        int b = random.nextInt(-60, 60);
        if (random.nextInt(3) > 0) {
            int[] ab = someForm();
            a = ab[0];
            b = ab[1];
        } else if (random.nextInt(4) == 0) {
            a = random.nextInt(-1, 2) + (random.nextBoolean() ? 100000 : 0);
            b = (random.nextInt(-1, 2) + 100000) * (random.nextBoolean() ? 1 : -1);
        }
        putInto(i, a, b);
    }

    /** a and b of a form of -d: a divides (b * b + d) / 4. */
    private int[] someForm() {
        int b = 2 * random.nextInt(-50000, 50000) + 1;
        long ac = ((long) b * b + d) / 4;
        int a = 1;
        int wish = random.nextInt(1, 1000);
        for (int p = 2; p < 2000 && a < wish; p++) {
            if (ac % ((long) a * p) == 0 && (long) a * p <= 100000) {
                a = a * p;
                p--;
            }
        }
        return new int[] {a, b};
    }

    private void putInto(int i, int a, int b) {
        both("put " + i + " " + a + " " + b, quiet(() -> clock.put(i, a, b)), quiet(() -> slow.put(i, a, b)));
    }

    private void testSomething() {
        int r = round();
        if (r >= 0 && r < slow.rounds()) {
            for (int which = 0; which < 3; which++) {
                if (random.nextInt(8) > 0) {
                    int a = slow.form(r, which, 0);
                    int b = slow.form(r, which, 1);
                    putInto(which, a, random.nextInt(10) == 0 ? -b : random.nextInt(12) == 0 ? b + 2 * a : b);
                }
            }
        }
        both("test " + r, () -> clock.test(r), () -> slow.test(r));
    }
}
