import java.math.BigInteger;
import java.util.NoSuchElementException;

/** The promises of the document by number: ordinary inputs, the edges it names, and wrong inputs. */
public final class PromisesTest {
    private static final Class<IllegalStateException> STATE = IllegalStateException.class;
    private static final Class<IllegalArgumentException> ARGUMENT = IllegalArgumentException.class;
    private static final Class<IndexOutOfBoundsException> INDEX = IndexOutOfBoundsException.class;
    private static final Class<NoSuchElementException> NO_SUCH = NoSuchElementException.class;
    private static final int NONE = SquaringClock.NONE;
    private static final int LOW = Integer.MIN_VALUE;
    private static final int HIGH = Integer.MAX_VALUE;

    private final Check check = new Check();

    public static void main(String[] args) {
        PromisesTest test = new PromisesTest();
        test.promise1NewObject();
        test.promise2Discriminant();
        test.promise2EmptiesBookAndBuffer();
        test.promise3Begin();
        test.promise3Chain();
        test.promise4Work();
        test.promise5Prove();
        test.promise6Publish();
        test.promise7Drop();
        test.promise8Rounds();
        test.promise9Told();
        test.promise9Primes();
        test.promise10Form();
        test.promise11Verify();
        test.promise12Put();
        test.promise13Buffer();
        test.promise14Reduce();
        test.promise15Multiply();
        test.promise16Raise();
        test.promise17Test();
        test.promise18Order();
        test.promise19Classes();
        test.check.end("PromisesTest");
    }

    private static SquaringClock of(int d) {
        SquaringClock clock = new SquaringClock();
        clock.discriminant(d);
        return clock;
    }

    private static void round(SquaringClock clock, int t) {
        clock.begin(t);
        clock.work(t);
        clock.prove(t);
        clock.publish();
    }

    private void slot(String what, SquaringClock clock, int i, long a, long b, long c) {
        check.due(what, clock.buffer(i, 0) + " " + clock.buffer(i, 1) + " " + clock.buffer(i, 2),
                a + " " + b + " " + c);
    }

    private void roundForm(String what, SquaringClock clock, int round, int which, String want) {
        check.due(what, formOf(clock, round, which), want);
    }

    private static String formOf(SquaringClock clock, int round, int which) {
        return clock.form(round, which, 0) + " " + clock.form(round, which, 1) + " " + clock.form(round, which, 2);
    }

    private void promise1NewObject() {
        SquaringClock clock = new SquaringClock();
        check.numbers("rounds", clock.rounds(), 0);
        check.due("drop", clock.drop(), false);
        // Without a discriminant it is IllegalStateException, whatever else is wrong.
        for (int n : new int[] {1, -7, 600, LOW, HIGH}) {
            check.throwing("begin", STATE, () -> clock.begin(n));
            check.throwing("work", STATE, () -> clock.work(n));
            check.throwing("prove", STATE, () -> clock.prove(n));
            check.throwing("publish", STATE, clock::publish);
            check.throwing("told", STATE, () -> clock.told(n, n));
            check.throwing("form", STATE, () -> clock.form(n, n, n));
            check.throwing("verify", STATE, () -> clock.verify(n));
            check.throwing("put", STATE, () -> clock.put(n, n, n));
            check.throwing("buffer", STATE, () -> clock.buffer(n, n));
            check.throwing("reduce", STATE, () -> clock.reduce(n, n));
            check.throwing("multiply", STATE, () -> clock.multiply(n, n, n));
            check.throwing("raise", STATE, () -> clock.raise(n, n, n));
            check.throwing("test", STATE, () -> clock.test(n));
            check.throwing("order", STATE, () -> clock.order(n));
            check.throwing("classes", STATE, clock::classes);
        }
        check.throwing("a wrong d", ARGUMENT, () -> clock.discriminant(8));
        check.throwing("still none after a wrong d", STATE, () -> clock.order(1));
    }

    private void promise2Discriminant() {
        SquaringClock clock = new SquaringClock();
        for (int d : new int[] {LOW, -1, -9, 0, 6, 8, 11, 13, 1000000000, 1000000007, HIGH, 1000000001}) {
            check.throwing("d " + d, ARGUMENT, () -> clock.discriminant(d));
        }
        for (int d : new int[] {7, 15, 999999999, 999999991}) {
            clock.discriminant(d);
            clock.put(0, 1, 1);
            slot("unit of " + d, clock, 0, 1, 1, (1 + (long) d) / 4);
        }
        clock.begin(1);
        check.throwing("running", STATE, () -> clock.discriminant(15));
        check.throwing("running, and a wrong d", ARGUMENT, () -> clock.discriminant(16));
        check.numbers("the round still runs", clock.told(NONE, 0), 1);
        clock.work(1);
        clock.prove(1);
        check.throwing("running until it is booked", STATE, () -> clock.discriminant(15));
        clock.publish();
        clock.discriminant(15);
        check.numbers("changed", clock.classes(), 2);
    }

    private void promise2EmptiesBookAndBuffer() {
        SquaringClock clock = of(23);
        round(clock, 3);
        clock.put(0, 1, 1);
        clock.put(1, 2, 1);
        clock.put(2, 2, -1);
        check.throwing("a wrong d", ARGUMENT, () -> clock.discriminant(24));
        check.numbers("a wrong d leaves the book", clock.rounds(), 1);
        slot("a wrong d leaves the buffer", clock, 2, 2, -1, 3);
        clock.discriminant(23);
        check.numbers("the book is empty", clock.rounds(), 0);
        check.throwing("no round", INDEX, () -> clock.told(0, 0));
        for (int i = 0; i < 3; i++) {
            int k = i;
            check.throwing("no form " + k, NO_SUCH, () -> clock.buffer(k, 0));
        }
        check.numbers("as on a new object", clock.begin(7), 38084);
    }

    private void promise3Begin() {
        SquaringClock clock = of(15);
        for (int t : new int[] {LOW, -1, 0, 501, HIGH}) {
            check.throwing("t " + t, ARGUMENT, () -> clock.begin(t));
        }
        check.throwing("none begun", INDEX, () -> clock.told(NONE, 0));
        check.numbers("exponent", clock.begin(500), 7584);
        check.throwing("running", STATE, () -> clock.begin(1));
        check.throwing("running, and a wrong t", ARGUMENT, () -> clock.begin(0));
        check.numbers("untouched", clock.told(NONE, 0), 500);
        clock.drop();
        check.numbers("the same again, T or not", clock.begin(3), 7584);
        roundForm("x is the generator's power", clock, NONE, 0, "1 1 4");
    }

    private void promise3Chain() {
        SquaringClock clock = of(2047);
        int[] exponents = {65025, 33968, 6002, 7846, 42230, 56125, 40532, 38099,
            31601, 40025, 33704, 11964, 57393, 14564, 9745, 60136};
        for (int i = 0; i < 16; i++) {
            int t = 1 + 3 * i;
            check.numbers("exponent of round " + i, clock.begin(t), exponents[i]);
            clock.work(t);
            clock.prove(t);
            check.numbers("booked", clock.publish(), i + 1);
        }
        check.throwing("16 are booked", STATE, () -> clock.begin(1));
        check.throwing("16 are booked, and a wrong t", ARGUMENT, () -> clock.begin(501));
        check.throwing("none was begun", INDEX, () -> clock.told(NONE, 0));
        roundForm("y of the last one", clock, 15, 1, "16 1 32");
        roundForm("the proof of round 9", clock, 9, 2, "8 1 64");
        for (int i = 0; i < 16; i++) {
            check.due("round " + i + " holds", clock.verify(i), true);
        }
    }

    private void promise4Work() {
        SquaringClock clock = of(23);
        check.throwing("none running", STATE, () -> clock.work(1));
        check.throwing("none running, and a wrong n", ARGUMENT, () -> clock.work(0));
        clock.begin(7);
        for (int n : new int[] {LOW, -1, 0, 501, HIGH}) {
            check.throwing("n " + n, ARGUMENT, () -> clock.work(n));
        }
        // In a group of three, squaring turns (2, -1, 3) into (2, 1, 3) and back.
        roundForm("x", clock, NONE, 0, "2 -1 3");
        roundForm("y at first", clock, NONE, 1, "2 -1 3");
        check.numbers("left after 1", clock.work(1), 6);
        roundForm("y after 1", clock, NONE, 1, "2 1 3");
        check.numbers("left after 3", clock.work(2), 4);
        roundForm("y after 3", clock, NONE, 1, "2 1 3");
        check.numbers("left after 4", clock.work(1), 3);
        roundForm("y after 4", clock, NONE, 1, "2 -1 3");
        check.numbers("more than are left", clock.work(500), 0);
        roundForm("y after 7", clock, NONE, 1, "2 1 3");
        roundForm("x stays", clock, NONE, 0, "2 -1 3");
        check.throwing("none left", STATE, () -> clock.work(1));
        check.throwing("none left, and a wrong n", ARGUMENT, () -> clock.work(501));
        clock.drop();
        clock.begin(500);
        check.numbers("all 500 at once", clock.work(500), 0);
    }

    private void promise5Prove() {
        SquaringClock clock = of(999999999);
        check.throwing("none running", STATE, () -> clock.prove(1));
        check.throwing("none running, and a wrong n", ARGUMENT, () -> clock.prove(0));
        clock.begin(40);
        check.throwing("40 squarings are left", STATE, () -> clock.prove(1));
        clock.work(39);
        check.throwing("1 squaring is left", STATE, () -> clock.prove(1));
        clock.work(1);
        for (int n : new int[] {LOW, -1, 0, 501, HIGH}) {
            check.throwing("n " + n, ARGUMENT, () -> clock.prove(n));
        }
        int prime = clock.told(NONE, 2);
        SlowForm x = SlowForm.with(999999999, clock.form(NONE, 0, 0), clock.form(NONE, 0, 1));
        for (int step = 1; step <= 30; step++) {
            check.numbers("left", clock.prove(1), 40 - step);
            proofIs("step " + step, clock, x.power((1L << step) / prime));
        }
        check.numbers("more than are left", clock.prove(11), 0);
        proofIs("all steps", clock, x.power((1L << 40) / prime));
        check.throwing("none left", STATE, () -> clock.prove(1));
        check.throwing("none left, and a wrong n", ARGUMENT, () -> clock.prove(501));
    }

    private void proofIs(String what, SquaringClock clock, SlowForm want) {
        roundForm(what, clock, NONE, 2, want.a() + " " + want.b() + " " + want.c());
    }

    private void promise6Publish() {
        SquaringClock clock = of(47);
        check.throwing("none running", STATE, clock::publish);
        clock.begin(2);
        check.throwing("squarings are left", STATE, clock::publish);
        clock.work(2);
        check.throwing("all steps are left", STATE, clock::publish);
        clock.prove(1);
        check.throwing("a step is left", STATE, clock::publish);
        clock.prove(1);
        String y = formOf(clock, NONE, 1);
        String proof = formOf(clock, NONE, 2);
        check.numbers("booked", clock.publish(), 1);
        check.throwing("once alone", STATE, clock::publish);
        roundForm("y is booked", clock, 0, 1, y);
        roundForm("the proof is booked", clock, 0, 2, proof);
        clock.begin(400);
        clock.work(500);
        clock.prove(500);
        check.numbers("another one", clock.publish(), 2);
        roundForm("the first one stays", clock, 0, 1, y);
    }

    private void promise7Drop() {
        SquaringClock clock = of(23);
        check.due("none", clock.drop(), false);
        int exponent = clock.begin(5);
        clock.work(5);
        clock.prove(2);
        check.due("one", clock.drop(), true);
        check.due("given up", clock.drop(), false);
        check.throwing("none running", STATE, () -> clock.prove(1));
        check.throwing("not to be told", INDEX, () -> clock.told(NONE, 0));
        check.numbers("not booked", clock.rounds(), 0);
        check.numbers("begun anew", clock.begin(6), exponent);
        check.numbers("with all squarings", clock.work(1), 5);
        check.numbers("without a prime", clock.told(NONE, 2), 0);
        roundForm("with a new proof", clock, NONE, 2, "1 1 6");
        clock.work(5);
        check.numbers("with all steps", clock.prove(1), 5);
    }

    private void promise8Rounds() {
        SquaringClock clock = of(39);
        for (int i = 0; i < 3; i++) {
            check.numbers("booked", clock.rounds(), i);
            clock.begin(2);
            check.numbers("a running one does not count", clock.rounds(), i);
            clock.work(2);
            clock.prove(2);
            clock.publish();
        }
        clock.begin(2);
        clock.drop();
        check.numbers("a dropped one does not count", clock.rounds(), 3);
    }

    private void promise9Told() {
        SquaringClock clock = of(15);
        check.throwing("none running", INDEX, () -> clock.told(NONE, 0));
        clock.begin(3);
        check.numbers("T", clock.told(NONE, 0), 3);
        check.numbers("exponent", clock.told(NONE, 1), 7584);
        check.numbers("no prime yet", clock.told(NONE, 2), 0);
        clock.work(2);
        check.numbers("still no prime", clock.told(NONE, 2), 0);
        clock.work(1);
        check.numbers("prime", clock.told(NONE, 2), 43607);
        check.throwing("not booked yet", INDEX, () -> clock.told(0, 0));
        clock.prove(3);
        clock.publish();
        check.numbers("T, booked", clock.told(0, 0), 3);
        check.numbers("exponent, booked", clock.told(0, 1), 7584);
        check.numbers("prime, booked", clock.told(0, 2), 43607);
        for (int round : new int[] {LOW, -2, NONE, 1, 15, 16, HIGH}) {
            check.throwing("round " + round, INDEX, () -> clock.told(round, 0));
        }
        for (int what : new int[] {LOW, -1, 3, HIGH}) {
            check.throwing("what " + what, INDEX, () -> clock.told(0, what));
        }
        clock.begin(9);
        check.numbers("NONE is the running one", clock.told(NONE, 0), 9);
        check.throwing("what, of the running one", INDEX, () -> clock.told(NONE, 3));
        check.numbers("the booked one stays", clock.told(0, 0), 3);
    }

    /** So many that some searches pass the square of a prime, or start at a prime. */
    private void promise9Primes() {
        for (int d = 7; d < 40000; d += 8) {
            SquaringClock clock = of(d);
            int t = 1 + d % 5;
            clock.begin(t);
            clock.work(t);
            int h = 2;
            for (int which = 0; which < 2; which++) {
                h = mixed(mixed(h, clock.form(NONE, which, 0)), clock.form(NONE, which, 1));
            }
            BigInteger least = BigInteger.valueOf((mixed(h, t) & 0xFFFF) + 3);
            check.numbers("prime of " + d, clock.told(NONE, 2),
                    least.subtract(BigInteger.ONE).nextProbablePrime().longValue());
        }
    }

    private static int mixed(int h, int v) {
        int product = (h ^ v) * 0x5BD1E995;
        return product ^ (product >>> 15);
    }

    private void promise10Form() {
        SquaringClock clock = of(23);
        check.throwing("none running", INDEX, () -> clock.form(NONE, 0, 0));
        clock.begin(7);
        roundForm("x", clock, NONE, 0, "2 -1 3");
        roundForm("y so far", clock, NONE, 1, "2 -1 3");
        roundForm("proof so far", clock, NONE, 2, "1 1 6");
        clock.work(7);
        clock.prove(7);
        clock.publish();
        roundForm("x, booked", clock, 0, 0, "2 -1 3");
        roundForm("y, booked", clock, 0, 1, "2 1 3");
        roundForm("proof, booked", clock, 0, 2, "1 1 6");
        for (int wrong : new int[] {LOW, -1, 3, HIGH}) {
            check.throwing("round " + wrong, INDEX, () -> clock.form(wrong, 0, 0));
            check.throwing("which " + wrong, INDEX, () -> clock.form(0, wrong, 0));
            check.throwing("part " + wrong, INDEX, () -> clock.form(0, 0, wrong));
        }
        check.throwing("round 1", INDEX, () -> clock.form(1, 0, 0));
        SquaringClock large = of(999999999);
        large.begin(1);
        roundForm("a large c", large, NONE, 2, "1 1 250000000");
    }

    private void promise11Verify() {
        SquaringClock clock = of(999999991);
        check.throwing("none", INDEX, () -> clock.verify(0));
        round(clock, 1);
        round(clock, 500);
        round(clock, 77);
        clock.begin(5);
        for (int i = 0; i < 3; i++) {
            check.due("round " + i, clock.verify(i), true);
        }
        for (int wrong : new int[] {LOW, NONE, 3, 15, 16, HIGH}) {
            check.throwing("round " + wrong, INDEX, () -> clock.verify(wrong));
        }
        check.numbers("the running one stays", clock.work(1), 4);
    }

    private void promise12Put() {
        SquaringClock clock = of(23);
        clock.put(0, 3, 5);
        slot("as it is, not reduced", clock, 0, 3, 5, 4);
        clock.put(0, 1, 99999);
        slot("a large b", clock, 0, 1, 99999, 2499950006L);
        clock.put(1, 1, -99999);
        slot("a b below 0", clock, 1, 1, -99999, 2499950006L);
        for (int i : new int[] {LOW, -1, 3, HIGH}) {
            check.throwing("i " + i, INDEX, () -> clock.put(i, 1, 1));
            check.throwing("i " + i + ", and a wrong a", INDEX, () -> clock.put(i, 0, 1));
        }
        for (int a : new int[] {LOW, -1, 0, 100001, HIGH}) {
            check.throwing("a " + a, ARGUMENT, () -> clock.put(0, a, 1));
        }
        for (int b : new int[] {LOW, -100001, 100001, HIGH}) {
            check.throwing("b " + b, ARGUMENT, () -> clock.put(0, 1, b));
        }
        check.throwing("an even b", ARGUMENT, () -> clock.put(0, 1, 0));
        check.throwing("a does not divide", ARGUMENT, () -> clock.put(0, 5, 1));
        slot("a wrong form leaves the old one", clock, 0, 1, 99999, 2499950006L);
        promise12Divisors();
        promise12Edges();
    }

    private void promise12Divisors() {
        SquaringClock clock = of(63);
        check.throwing("(3, 3, 6) has 3", ARGUMENT, () -> clock.put(0, 3, 3));
        check.throwing("(6, 3, 3) has 3", ARGUMENT, () -> clock.put(0, 6, 3));
        check.throwing("none was put", NO_SUCH, () -> clock.buffer(0, 0));
        clock.put(0, 9, 9);
        slot("(9, 9, 4) has none", clock, 0, 9, 9, 4);
        clock.put(0, 2, 1);
        slot("(2, 1, 8) has none", clock, 0, 2, 1, 8);
    }

    private void promise12Edges() {
        SquaringClock clock = of(4 * 100000 * 2500 - 1);
        clock.put(0, 100000, 1);
        slot("a 100000", clock, 0, 100000, 1, 2500);
        clock.put(1, 100000, -1);
        slot("a 100000, b -1", clock, 1, 100000, -1, 2500);
        SquaringClock beyond = of(4 * 100001 * 2 - 1);
        check.throwing("a 100001, though it would fit", ARGUMENT, () -> beyond.put(0, 100001, 1));
        check.throwing("b 100001, though it would fit", ARGUMENT, () -> beyond.put(0, 1, 100001));
        check.throwing("b -100001, though it would fit", ARGUMENT, () -> beyond.put(0, 1, -100001));
    }

    private void promise13Buffer() {
        SquaringClock clock = of(23);
        for (int i = 0; i < 3; i++) {
            int k = i;
            check.throwing("none at first", NO_SUCH, () -> clock.buffer(k, 0));
            check.throwing("none, and a wrong part", INDEX, () -> clock.buffer(k, 3));
        }
        clock.put(1, 2, -1);
        slot("put", clock, 1, 2, -1, 3);
        check.throwing("none beside it", NO_SUCH, () -> clock.buffer(0, 0));
        check.throwing("none beside it", NO_SUCH, () -> clock.buffer(2, 2));
        for (int wrong : new int[] {LOW, -1, 3, HIGH}) {
            check.throwing("i " + wrong, INDEX, () -> clock.buffer(wrong, 0));
            check.throwing("part " + wrong, INDEX, () -> clock.buffer(1, wrong));
        }
    }

    private void promise14Reduce() {
        SquaringClock clock = of(23);
        check.throwing("none", NO_SUCH, () -> clock.reduce(0, 1));
        clock.put(0, 3, 5);
        clock.reduce(0, 2);
        slot("reduced", clock, 2, 2, 1, 3);
        slot("the old one stays", clock, 0, 3, 5, 4);
        clock.reduce(0, 0);
        slot("in its place", clock, 0, 2, 1, 3);
        clock.reduce(0, 0);
        slot("reduced already", clock, 0, 2, 1, 3);
        clock.put(0, 1, -99999);
        clock.reduce(0, 1);
        slot("from far", clock, 1, 1, 1, 6);
        for (int wrong : new int[] {LOW, -1, 3, HIGH}) {
            check.throwing("i " + wrong, INDEX, () -> clock.reduce(wrong, 0));
            check.throwing("k " + wrong, INDEX, () -> clock.reduce(0, wrong));
        }
        SquaringClock edges = of(15);
        check.throwing("none, and a wrong k", INDEX, () -> edges.reduce(0, 3));
        edges.put(0, 2, -1);
        edges.reduce(0, 0);
        slot("b is not below 0 when a is c", edges, 0, 2, 1, 2);
        edges.put(0, 1, -1);
        edges.reduce(0, 0);
        slot("b is not -a", edges, 0, 1, 1, 4);
    }

    private void promise15Multiply() {
        SquaringClock clock = of(23);
        check.throwing("none", NO_SUCH, () -> clock.multiply(0, 0, 0));
        clock.put(0, 2, 1);
        check.throwing("form j is none", NO_SUCH, () -> clock.multiply(0, 1, 0));
        check.throwing("form i is none", NO_SUCH, () -> clock.multiply(1, 0, 0));
        slot("untouched", clock, 0, 2, 1, 3);
        clock.multiply(0, 0, 1);
        slot("squared", clock, 1, 2, -1, 3);
        clock.multiply(0, 1, 2);
        slot("with its inverse", clock, 2, 1, 1, 6);
        clock.multiply(0, 2, 2);
        slot("with the unit, in its place", clock, 2, 2, 1, 3);
        clock.put(0, 3, 5);
        clock.put(1, 1, 99999);
        clock.multiply(1, 0, 2);
        slot("of forms that are not reduced", clock, 2, 2, 1, 3);
        slot("which stay as they are", clock, 0, 3, 5, 4);
        slot("both", clock, 1, 1, 99999, 2499950006L);
        for (int wrong : new int[] {LOW, -1, 3, HIGH}) {
            check.throwing("i " + wrong, INDEX, () -> clock.multiply(wrong, 0, 0));
            check.throwing("j " + wrong, INDEX, () -> clock.multiply(0, wrong, 0));
            check.throwing("k " + wrong, INDEX, () -> clock.multiply(0, 0, wrong));
        }
        SquaringClock empty = of(23);
        check.throwing("none, and a wrong k", INDEX, () -> empty.multiply(0, 0, 3));
    }

    private void promise16Raise() {
        SquaringClock clock = of(47);
        check.throwing("none", NO_SUCH, () -> clock.raise(0, 1, 0));
        check.throwing("none, and n below 0", ARGUMENT, () -> clock.raise(0, -1, 0));
        clock.put(0, 2, 1);
        String[] powers = {"1 1 12", "2 1 6", "3 -1 4", "3 1 4", "2 -1 6"};
        for (int n : new int[] {0, 1, 2, 3, 4, 5, 6, 7, 1000003, HIGH - 1, HIGH}) {
            clock.raise(0, n, 1);
            check.due("power " + n,
                    clock.buffer(1, 0) + " " + clock.buffer(1, 1) + " " + clock.buffer(1, 2), powers[n % 5]);
        }
        slot("form i stays", clock, 0, 2, 1, 6);
        check.throwing("n -1", ARGUMENT, () -> clock.raise(0, -1, 1));
        check.throwing("n lowest", ARGUMENT, () -> clock.raise(0, LOW, 1));
        for (int wrong : new int[] {LOW, -1, 3, HIGH}) {
            check.throwing("i " + wrong, INDEX, () -> clock.raise(wrong, -1, 0));
            check.throwing("k " + wrong, INDEX, () -> clock.raise(0, -1, wrong));
        }
        clock.put(2, 2, 5);
        clock.raise(2, 1, 2);
        slot("the power with 1 is reduced", clock, 2, 2, 1, 6);
        clock.raise(2, 3, 2);
        slot("in its place", clock, 2, 3, 1, 4);
    }

    private void promise17Test() {
        int d = 999999999;
        SquaringClock clock = of(d);
        round(clock, 40);
        round(clock, 333);
        check.throwing("an empty buffer", NO_SUCH, () -> clock.test(0));
        for (int wrong : new int[] {LOW, NONE, 2, 15, 16, HIGH}) {
            check.throwing("round " + wrong, INDEX, () -> clock.test(wrong));
        }
        for (int round = 0; round < 2; round++) {
            for (int i = 0; i < 3; i++) {
                clock.put(i, clock.form(round, i, 0), clock.form(round, i, 1));
                if (round == 0 && i < 2) {
                    check.throwing("a form is none", NO_SUCH, () -> clock.test(0));
                }
            }
            check.numbers("what was booked as round " + round, clock.test(round), 0);
            check.numbers("not x of the other", clock.test(1 - round), 1);
        }
        promise17Wrong(clock);
    }

    private void promise17Wrong(SquaringClock clock) {
        int[] a = new int[3];
        int[] b = new int[3];
        for (int i = 0; i < 3; i++) {
            a[i] = clock.form(1, i, 0);
            b[i] = clock.form(1, i, 1);
        }
        for (int i = 0; i < 3; i++) {
            clock.put(i, a[i], b[i] - 2 * a[i]);
            check.numbers("form " + i + " is not reduced", clock.test(1), i == 0 ? 1 : 2);
            clock.put(i, a[i], -b[i]);
            check.numbers("form " + i + " is turned round", clock.test(1), i == 0 ? 1 : 3);
            clock.put(i, 1, 1);
            check.numbers("form " + i + " is the unit", clock.test(1), i == 0 ? 1 : 3);
            clock.put(i, a[i], b[i]);
            check.numbers("all right again", clock.test(1), 0);
        }
        clock.put(0, 1, 1);
        clock.put(1, 1, 3);
        check.numbers("1 before 2", clock.test(1), 1);
        clock.put(0, a[0], b[0]);
        clock.put(2, 1, 1);
        check.numbers("2 before 3", clock.test(1), 2);
        clock.put(1, a[1], b[1]);
        clock.put(2, a[2], b[2]);
        check.numbers("nothing was changed by it", clock.test(1), 0);
    }

    private void promise18Order() {
        SquaringClock clock = of(49999);
        check.numbers("all", clock.order(1000), 183);
        check.numbers("just", clock.order(183), 183);
        check.numbers("just not", clock.order(182), 0);
        for (int most : new int[] {LOW, -1, 0, 1001, HIGH}) {
            check.throwing("most " + most, ARGUMENT, () -> clock.order(most));
        }
        check.numbers("the generator is the unit", of(7).order(1), 1);
        check.numbers("two", of(15).order(1000), 2);
        check.numbers("not two by 1", of(15).order(1), 0);
        check.numbers("more classes than the order", of(2047).order(500), 9);
        check.numbers("of a large d", of(999999999).order(1000), 628);
        check.numbers("none", of(999999991).order(1000), 0);
    }

    private void promise19Classes() {
        int[][] known = {{7, 1}, {15, 2}, {23, 3}, {31, 3}, {39, 4}, {47, 5}, {63, 4}, {2047, 18}, {49999, 183}};
        for (int[] pair : known) {
            check.numbers("classes of " + pair[0], of(pair[0]).classes(), pair[1]);
        }
        check.throwing("50007", ARGUMENT, () -> of(50007).classes());
        check.throwing("999999999", ARGUMENT, () -> of(999999999).classes());
    }
}
