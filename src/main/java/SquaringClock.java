import java.util.NoSuchElementException;

/** A clock of squarings of binary quadratic forms, with a book of rounds that prove themselves. */
public final class SquaringClock {
    public static final int NONE = -1;

    private static final int LEAST_D = 7;
    private static final int MOST_D = 1000000000;
    private static final int MOST_D_TO_COUNT = 50000;
    private static final int MOST_TURNS = 500;
    private static final int MOST_BOOKED = 16;
    private static final int MOST_ORDER = 1000;
    private static final int MOST_PUT = 100000;
    private static final int SLOTS = 3;
    private static final int PARTS = 3;

    private static final int MIX_FACTOR = 0x5BD1E995;
    private static final int LOW_16 = 0xFFFF;
    // Far above what is needed: the loops that it bounds end after less than a hundred turns.
    private static final int MOST_LOOPS = 100000;

    private final Forms forms;
    private final Round[] book;
    private final Form[] slots;
    private final boolean[] filled;
    private boolean chosen;
    private int booked;
    private Round running;

    public SquaringClock() {
        forms = new Forms();
        book = new Round[MOST_BOOKED];
        for (int i = 0; i < MOST_BOOKED; i++) {
            book[i] = new Round();
        }
        slots = new Form[SLOTS];
        for (int i = 0; i < SLOTS; i++) {
            slots[i] = new Form();
        }
        filled = new boolean[SLOTS];
        chosen = false;
        booked = 0;
        running = null;
    }

    public void discriminant(int d) throws IllegalArgumentException, IllegalStateException {
        if (d < LEAST_D || d > MOST_D || d % 8 != 7) {
            throw new IllegalArgumentException("d is not 7 .. 1000000000 and 7 modulo 8");
        }
        if (running != null) {
            throw new IllegalStateException("a round is running");
        }
        forms.choose(d);
        chosen = true;
        booked = 0;
        for (int i = 0; i < SLOTS; i++) {
            filled[i] = false;
        }
    }

    public int begin(int t) throws IllegalStateException, IllegalArgumentException {
        needDiscriminant();
        needTurns(t);
        if (running != null || booked >= MOST_BOOKED) {
            throw new IllegalStateException("a round is running, or the book is full");
        }
        Round next = book[booked];
        next.squarings = t;
        next.squaringsLeft = t;
        next.stepsLeft = t;
        next.prime = 0;
        next.rest = 1;
        next.exponent = nextExponent();
        forms.power(forms.generator, next.exponent, next.x);
        next.y.become(next.x);
        next.proof.become(forms.unit);
        running = next;
        return next.exponent;
    }

    public int work(int n) throws IllegalStateException, IllegalArgumentException {
        needDiscriminant();
        needTurns(n);
        if (running == null || running.squaringsLeft == 0) {
            throw new IllegalStateException("no squarings are left");
        }
        int turns = Math.min(n, running.squaringsLeft);
        for (int i = 0; i < turns; i++) {
            forms.product(running.y, running.y, running.y);
        }
        running.squaringsLeft -= turns;
        if (running.squaringsLeft == 0) {
            running.prime = primeOf(running.x, running.y, running.squarings);
        }
        return running.squaringsLeft;
    }

    public int prove(int n) throws IllegalStateException, IllegalArgumentException {
        needDiscriminant();
        needTurns(n);
        if (running == null || running.squaringsLeft > 0 || running.stepsLeft == 0) {
            throw new IllegalStateException("squarings are left, or no steps are");
        }
        int turns = Math.min(n, running.stepsLeft);
        for (int i = 0; i < turns; i++) {
            stepOfProof(running);
        }
        running.stepsLeft -= turns;
        return running.stepsLeft;
    }

    public int publish() throws IllegalStateException {
        needDiscriminant();
        if (running == null || running.squaringsLeft > 0 || running.stepsLeft > 0) {
            throw new IllegalStateException("no round is ready to be booked");
        }
        running = null;
        booked++;
        return booked;
    }

    public boolean drop() {
        boolean was = running != null;
        running = null;
        return was;
    }

    public int rounds() {
        return booked;
    }

    public int told(int round, int what) throws IllegalStateException, IndexOutOfBoundsException {
        needDiscriminant();
        Round asked = bookedOrRunning(round);
        switch (what) {
            case 0:
                return asked.squarings;
            case 1:
                return asked.exponent;
            case 2:
                return asked.prime;
            default:
                throw new IndexOutOfBoundsException("what is not 0 .. 2");
        }
    }

    public int form(int round, int which, int part) throws IllegalStateException, IndexOutOfBoundsException {
        needDiscriminant();
        Round asked = bookedOrRunning(round);
        needPart(part);
        switch (which) {
            case 0:
                return (int) asked.x.part(part);
            case 1:
                return (int) asked.y.part(part);
            case 2:
                return (int) asked.proof.part(part);
            default:
                throw new IndexOutOfBoundsException("which is not 0 .. 2");
        }
    }

    public boolean verify(int round) throws IllegalStateException, IndexOutOfBoundsException {
        needDiscriminant();
        Round asked = bookedRound(round);
        return forms.isGeneratorsPower(asked.x, asked.exponent)
                && forms.holds(asked.x, asked.y, asked.proof, asked.prime, asked.squarings);
    }

    public void put(int i, int a, int b)
            throws IllegalStateException, IndexOutOfBoundsException, IllegalArgumentException {
        needDiscriminant();
        needSlot(i);
        if (a < 1 || a > MOST_PUT || b < -MOST_PUT || b > MOST_PUT || !forms.hasForm(a, b)) {
            throw new IllegalArgumentException("there is no such form");
        }
        forms.complete(slots[i], a, b);
        filled[i] = true;
    }

    public long buffer(int i, int part)
            throws IllegalStateException, IndexOutOfBoundsException, NoSuchElementException {
        needDiscriminant();
        needSlot(i);
        needPart(part);
        needFilled(i);
        return slots[i].part(part);
    }

    public void reduce(int i, int k)
            throws IllegalStateException, IndexOutOfBoundsException, NoSuchElementException {
        needDiscriminant();
        needSlot(i);
        needSlot(k);
        needFilled(i);
        slots[k].become(slots[i]);
        forms.settle(slots[k]);
        filled[k] = true;
    }

    public void multiply(int i, int j, int k)
            throws IllegalStateException, IndexOutOfBoundsException, NoSuchElementException {
        needDiscriminant();
        needSlot(i);
        needSlot(j);
        needSlot(k);
        needFilled(i);
        needFilled(j);
        forms.product(slots[i], slots[j], slots[k]);
        filled[k] = true;
    }

    public void raise(int i, int n, int k) throws IllegalStateException, IndexOutOfBoundsException,
            IllegalArgumentException, NoSuchElementException {
        needDiscriminant();
        needSlot(i);
        needSlot(k);
        if (n < 0) {
            throw new IllegalArgumentException("n is below 0");
        }
        needFilled(i);
        forms.power(slots[i], n, slots[k]);
        filled[k] = true;
    }

    public int test(int round) throws IllegalStateException, IndexOutOfBoundsException, NoSuchElementException {
        needDiscriminant();
        Round asked = bookedRound(round);
        for (int i = 0; i < SLOTS; i++) {
            needFilled(i);
        }
        Form x = slots[0];
        Form y = slots[1];
        Form proof = slots[2];
        if (!x.isSame(asked.x)) {
            return 1;
        }
        if (!y.isReduced() || !proof.isReduced()) {
            return 2;
        }
        int prime = primeOf(x, y, asked.squarings);
        return forms.holds(x, y, proof, prime, asked.squarings) ? 0 : 3;
    }

    public int order(int most) throws IllegalStateException, IllegalArgumentException {
        needDiscriminant();
        if (most < 1 || most > MOST_ORDER) {
            throw new IllegalArgumentException("most is not 1 .. 1000");
        }
        return forms.generatorsOrder(most);
    }

    public int classes() throws IllegalStateException, IllegalArgumentException {
        needDiscriminant();
        if (forms.d > MOST_D_TO_COUNT) {
            throw new IllegalArgumentException("d is above 50000");
        }
        return forms.countReduced();
    }

    private void needDiscriminant() {
        if (!chosen) {
            throw new IllegalStateException("there is no discriminant yet");
        }
    }

    private static void needTurns(int n) {
        if (n < 1 || n > MOST_TURNS) {
            throw new IllegalArgumentException("not 1 .. 500");
        }
    }

    private static void needSlot(int i) {
        if (i < 0 || i >= SLOTS) {
            throw new IndexOutOfBoundsException("the buffer has forms 0 .. 2");
        }
    }

    private static void needPart(int part) {
        if (part < 0 || part >= PARTS) {
            throw new IndexOutOfBoundsException("a form has parts 0 .. 2");
        }
    }

    private void needFilled(int i) {
        if (!filled[i]) {
            throw new NoSuchElementException("there is no such form in the buffer");
        }
    }

    private Round bookedRound(int round) {
        if (round < 0 || round >= booked) {
            throw new IndexOutOfBoundsException("there is no such round");
        }
        return book[round];
    }

    private Round bookedOrRunning(int round) {
        if (round == NONE && running != null) {
            return running;
        }
        return bookedRound(round);
    }

    private int nextExponent() {
        int h = mixed(1, forms.d);
        h = mixed(h, booked);
        if (booked > 0) {
            h = mixedForm(h, book[booked - 1].y);
        }
        return (h & LOW_16) + 1;
    }

    private static int primeOf(Form x, Form y, int squarings) {
        int h = mixedForm(2, x);
        h = mixedForm(h, y);
        h = mixed(h, squarings);
        return leastPrimeFrom((h & LOW_16) + 3);
    }

    private static int mixed(int h, int v) {
        int product = (h ^ v) * MIX_FACTOR;
        return product ^ (product >>> 15);
    }

    private static int mixedForm(int h, Form form) {
        return mixed(mixed(h, (int) form.a), (int) form.b);
    }

    private static int leastPrimeFrom(int least) {
        int candidate = least;
        for (int loop = 0; loop < MOST_LOOPS && !isPrime(candidate); loop++) {
            candidate++;
        }
        return candidate;
    }

    private static boolean isPrime(int n) {
        for (int divisor = 2; divisor * divisor <= n; divisor++) {
            if (n % divisor == 0) {
                return false;
            }
        }
        return n > 1;
    }

    private void stepOfProof(Round round) {
        forms.product(round.proof, round.proof, round.proof);
        round.rest = 2 * round.rest;
        if (round.rest >= round.prime) {
            forms.product(round.proof, round.x, round.proof);
            round.rest -= round.prime;
        }
    }

    // No divisor below is ever 0; these two keep it plain that no call can throw by dividing.
    private static long quotient(long p, long q) {
        return q == 0 ? 0 : p / q;
    }

    private static long remainder(long p, long q) {
        long rest = q == 0 ? 0 : p % q;
        return rest < 0 ? rest + q : rest;
    }

    /** One form; its parts are changed in place, so that long runs make no new objects. */
    private static final class Form {
        private long a;
        private long b;
        private long c;

        Form() {
            a = 1;
            b = 1;
            c = 1;
        }

        void become(Form other) {
            a = other.a;
            b = other.b;
            c = other.c;
        }

        boolean isSame(Form other) {
            return a == other.a && b == other.b && c == other.c;
        }

        boolean isReduced() {
            return -a < b && b <= a && a <= c && (a != c || b >= 0);
        }

        long part(int which) {
            if (which == 0) {
                return a;
            }
            return which == 1 ? b : c;
        }

        void swapEnds() {
            long first = a;
            a = c;
            b = -b;
            c = first;
        }
    }

    /** A round: the one that is running, or one of the book. */
    private static final class Round {
        private int squarings;
        private int squaringsLeft;
        private int stepsLeft;
        private int exponent;
        private int prime;
        private int rest;
        private final Form x;
        private final Form y;
        private final Form proof;

        Round() {
            x = new Form();
            y = new Form();
            proof = new Form();
        }
    }

    /** The greatest common divisor of p and q, and it as first * p + second * q. */
    private static final class Euclid {
        private long divisor;
        private long first;
        private long second;

        void find(long p, long q) {
            long high = p;
            long low = q;
            long firstOfLow = 0;
            long secondOfLow = 1;
            first = 1;
            second = 0;
            for (int loop = 0; loop < MOST_LOOPS && low != 0; loop++) {
                long times = quotient(high, low);
                long next = high - times * low;
                high = low;
                low = next;
                next = first - times * firstOfLow;
                first = firstOfLow;
                firstOfLow = next;
                next = second - times * secondOfLow;
                second = secondOfLow;
                secondOfLow = next;
            }
            long sign = high < 0 ? -1 : 1;
            divisor = sign * high;
            first = sign * first;
            second = sign * second;
        }
    }

    /** The forms of one discriminant, and what is reckoned with them. */
    private static final class Forms {
        private int d;
        private final Form unit;
        private final Form generator;
        private final Euclid euclid;
        // Made once to reckon in, a pair for each level of calls, so that none writes over another's:
        // left and right are product's, base and sofar power's, one and other those of its callers.
        private final Form left;
        private final Form right;
        private final Form base;
        private final Form sofar;
        private final Form one;
        private final Form other;

        Forms() {
            d = LEAST_D;
            unit = new Form();
            generator = new Form();
            euclid = new Euclid();
            left = new Form();
            right = new Form();
            base = new Form();
            sofar = new Form();
            one = new Form();
            other = new Form();
        }

        void choose(int newD) {
            d = newD;
            complete(unit, 1, 1);
            complete(generator, 2, 1);
            settle(generator);
        }

        void complete(Form form, long a, long b) {
            form.a = a;
            form.b = b;
            form.c = quotient(b * b + d, 4 * a);
        }

        boolean hasForm(long a, long b) {
            long fourTimesAC = b * b + d;
            return remainder(fourTimesAC, 4 * a) == 0
                    && hasNoCommonDivisor(a, b, quotient(fourTimesAC, 4 * a));
        }

        boolean hasNoCommonDivisor(long a, long b, long c) {
            euclid.find(a, b);
            euclid.find(euclid.divisor, c);
            return euclid.divisor == 1;
        }

        void settle(Form form) {
            for (int loop = 0; loop < MOST_LOOPS && !form.isReduced(); loop++) {
                if (form.a >= form.c) {
                    form.swapEnds();
                }
                bringBNearZero(form);
            }
        }

        void bringBNearZero(Form form) {
            form.b = form.a - remainder(form.a - form.b, 2 * form.a);
            form.c = quotient(form.b * form.b + d, 4 * form.a);
        }

        // Both factors are reduced first: only then do all products below fit into a long.
        void product(Form f, Form g, Form result) {
            left.become(f);
            settle(left);
            right.become(g);
            settle(right);
            long half = (left.b + right.b) / 2;
            euclid.find(left.a, right.a);
            long ofRight = euclid.second;
            euclid.find(euclid.divisor, half);
            long shared = euclid.divisor;
            long leftA = quotient(left.a, shared);
            long rightA = quotient(right.a, shared);
            long times = euclid.first * ofRight * (half - right.b) - euclid.second * right.c;
            complete(result, leftA * rightA, right.b + 2 * rightA * remainder(times, leftA));
            settle(result);
        }

        void power(Form form, int n, Form result) {
            base.become(form);
            sofar.become(unit);
            for (int bits = n; bits > 0; bits = bits >> 1) {
                if ((bits & 1) == 1) {
                    product(sofar, base, sofar);
                }
                product(base, base, base);
            }
            result.become(sofar);
        }

        boolean isGeneratorsPower(Form form, int n) {
            power(generator, n, one);
            return one.isSame(form);
        }

        boolean holds(Form x, Form y, Form proof, int prime, int squarings) {
            power(proof, prime, one);
            power(x, restOfPowerOfTwo(squarings, prime), other);
            product(one, other, one);
            return one.isSame(y);
        }

        int restOfPowerOfTwo(int doublings, int prime) {
            int rest = 1;
            for (int i = 0; i < doublings; i++) {
                rest = 2 * rest;
                if (rest >= prime) {
                    rest -= prime;
                }
            }
            return rest;
        }

        int generatorsOrder(int most) {
            one.become(generator);
            for (int n = 1; n <= most; n++) {
                if (one.isSame(unit)) {
                    return n;
                }
                product(one, generator, one);
            }
            return 0;
        }

        // d is odd, so b is never 0: each b above 0 stands for -b too, where that is reduced as well.
        int countReduced() {
            int count = 0;
            for (long b = 1; 3 * b * b <= d; b += 2) {
                long ac = (b * b + d) / 4;
                for (long a = b; a * a <= ac; a++) {
                    if (remainder(ac, a) == 0 && hasNoCommonDivisor(a, b, quotient(ac, a))) {
                        count += a == b || a * a == ac ? 1 : 2;
                    }
                }
            }
            return count;
        }
    }
}
