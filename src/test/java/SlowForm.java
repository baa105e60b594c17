import java.math.BigInteger;

/** Forms as the document's Terms tell them, reckoned plainly and apart from the program's way. */
record SlowForm(BigInteger a, BigInteger b, BigInteger c) {
    private static final BigInteger TWO = BigInteger.TWO;
    private static final BigInteger FOUR = BigInteger.valueOf(4);

    /** Null when there is no form with a and b. */
    static SlowForm with(long d, BigInteger a, BigInteger b) {
        BigInteger[] parts = b.multiply(b).add(BigInteger.valueOf(d)).divideAndRemainder(FOUR.multiply(a));
        if (parts[1].signum() != 0 || !a.gcd(b).gcd(parts[0]).equals(BigInteger.ONE)) {
            return null;
        }
        return new SlowForm(a, b, parts[0]);
    }

    static SlowForm with(long d, long a, long b) {
        return with(d, BigInteger.valueOf(a), BigInteger.valueOf(b));
    }

    static SlowForm unit(long d) {
        return with(d, 1, 1);
    }

    static SlowForm generator(long d) {
        return with(d, 2, 1).reduced();
    }

    long d() {
        return FOUR.multiply(a).multiply(c).subtract(b.multiply(b)).longValueExact();
    }

    long part(int which) {
        return (which == 0 ? a : which == 1 ? b : c).longValueExact();
    }

    boolean isReduced() {
        return a.negate().compareTo(b) < 0 && b.compareTo(a) <= 0 && a.compareTo(c) <= 0
                && (!a.equals(c) || b.signum() >= 0);
    }

    /** The document's first step, so and so often (back, when times is below 0). */
    SlowForm shifted(BigInteger times) {
        BigInteger newC = a.multiply(times).multiply(times).add(b.multiply(times)).add(c);
        return new SlowForm(a, b.add(TWO.multiply(a).multiply(times)), newC);
    }

    SlowForm turned() {
        return new SlowForm(c, b.negate(), a);
    }

    SlowForm reduced() {
        SlowForm form = this;
        while (!form.isReduced()) {
            BigInteger twice = TWO.multiply(form.a);
            BigInteger near = form.a.subtract(form.a.subtract(form.b).mod(twice));
            form = form.shifted(near.subtract(form.b).divide(twice));
            if (!form.isReduced()) {
                form = form.turned();
            }
        }
        return form;
    }

    /** By the words of THE PRODUCT: a first number without a common divisor, then one b for both. */
    SlowForm times(SlowForm second) {
        SlowForm other = second.withFirstApartFrom(a);
        BigInteger f = other.a;
        // b + 2 * a * k must be other.b modulo 2 * f; both are odd, so half their difference is whole.
        BigInteger k = f.equals(BigInteger.ONE) ? BigInteger.ZERO
                : other.b.subtract(b).divide(TWO).multiply(a.modInverse(f)).mod(f);
        BigInteger joint = b.add(TWO.multiply(a).multiply(k));
        return with(d(), a.multiply(f), joint).reduced();
    }

    private SlowForm withFirstApartFrom(BigInteger n) {
        for (long y = 0; ; y++) {
            for (long x = 0; x <= 40; x++) {
                SlowForm form = withFirstOf(x, y);
                if (form != null && form.a.gcd(n).equals(BigInteger.ONE)) {
                    return form;
                }
            }
        }
    }

    /** The form alike to this one whose first number is this one's value at (x, y), null if none is. */
    private SlowForm withFirstOf(long x, long y) {
        if (x == 0) {
            return y == 1 ? moved(0, -1, 1, 0) : null;
        }
        for (long w = 0; w < x; w++) {
            if ((1 + y * w) % x == 0) {
                return moved(x, w, y, (1 + y * w) / x);
            }
        }
        return null;
    }

    private SlowForm moved(long x, long w, long y, long v) {
        BigInteger first = value(x, y);
        BigInteger last = value(w, v);
        BigInteger middle = TWO.multiply(a).multiply(BigInteger.valueOf(x * w))
                .add(b.multiply(BigInteger.valueOf(x * v + y * w)))
                .add(TWO.multiply(c).multiply(BigInteger.valueOf(y * v)));
        return new SlowForm(first, middle, last);
    }

    private BigInteger value(long x, long y) {
        return a.multiply(BigInteger.valueOf(x * x)).add(b.multiply(BigInteger.valueOf(x * y)))
                .add(c.multiply(BigInteger.valueOf(y * y)));
    }

    SlowForm power(BigInteger n) {
        SlowForm result = unit(d());
        for (int bit = n.bitLength() - 1; bit >= 0; bit--) {
            result = result.times(result);
            if (n.testBit(bit)) {
                result = result.times(this);
            }
        }
        return result;
    }

    SlowForm power(long n) {
        return power(BigInteger.valueOf(n));
    }
}
