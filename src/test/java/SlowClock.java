import java.math.BigInteger;
import java.util.ArrayList;
import java.util.List;
import java.util.NoSuchElementException;

/** The document's clock told plainly a second time, for the program to be compared with. */
final class SlowClock {
    private static final int NONE = -1;
    private int d = 0;
    private final List<Round> book = new ArrayList<>();
    private Round running = null;
    private final SlowForm[] slots = new SlowForm[3];

    private static final class Round {
        int t;
        int exponent;
        int squared = 0;
        int steps = 0;
        SlowForm x;

        SlowForm y() {
            return x.power(BigInteger.ONE.shiftLeft(squared));
        }

        int prime() {
            return squared < t ? 0 : primeOf(x, y(), t);
        }

        /** After s steps the proof is the power with 2^s / prime, rounded down. */
        SlowForm proof() {
            if (steps == 0) {
                return SlowForm.unit(x.d());
            }
            return x.power(BigInteger.ONE.shiftLeft(steps).divide(BigInteger.valueOf(prime())));
        }
    }

    private static int mix(int h, long v) {
        int k = (h ^ (int) v) * 0x5BD1E995;
        return k ^ (k >>> 15);
    }

    static int primeOf(SlowForm x, SlowForm y, int t) {
        int h = 2;
        for (long v : new long[] {x.part(0), x.part(1), y.part(0), y.part(1), t}) {
            h = mix(h, v);
        }
        BigInteger p = BigInteger.valueOf(3 + (h & 0xFFFF));
        return p.isProbablePrime(60) ? p.intValueExact() : p.nextProbablePrime().intValueExact();
    }

    private void state(boolean fits) {
        if (!fits) {
            throw new IllegalStateException();
        }
    }

    private void argument(boolean fits) {
        if (!fits) {
            throw new IllegalArgumentException();
        }
    }

    private void index(boolean fits) {
        if (!fits) {
            throw new IndexOutOfBoundsException();
        }
    }

    private void there(SlowForm... forms) {
        for (SlowForm form : forms) {
            if (form == null) {
                throw new NoSuchElementException();
            }
        }
    }

    private void slot(int... all) {
        for (int i : all) {
            index(i >= 0 && i <= 2);
        }
    }

    void discriminant(int newD) {
        argument(newD >= 7 && newD <= 1000000000 && newD % 8 == 7);
        state(running == null);
        d = newD;
        book.clear();
        slots[0] = slots[1] = slots[2] = null;
    }

    int begin(int t) {
        state(d != 0);
        argument(t >= 1 && t <= 500);
        state(running == null && book.size() < 16);
        int h = mix(mix(1, d), book.size());
        if (!book.isEmpty()) {
            SlowForm last = book.get(book.size() - 1).y();
            h = mix(mix(h, last.part(0)), last.part(1));
        }
        running = new Round();
        running.t = t;
        running.exponent = 1 + (h & 0xFFFF);
        running.x = SlowForm.generator(d).power(running.exponent);
        return running.exponent;
    }

    int work(int n) {
        state(d != 0);
        argument(n >= 1 && n <= 500);
        state(running != null && running.squared < running.t);
        running.squared = Math.min(running.t, running.squared + n);
        return running.t - running.squared;
    }

    int prove(int n) {
        state(d != 0);
        argument(n >= 1 && n <= 500);
        state(running != null && running.squared == running.t && running.steps < running.t);
        running.steps = Math.min(running.t, running.steps + n);
        return running.t - running.steps;
    }

    int publish() {
        state(d != 0);
        state(running != null && running.steps == running.t);
        book.add(running);
        running = null;
        return book.size();
    }

    boolean drop() {
        boolean was = running != null;
        running = null;
        return was;
    }

    int rounds() {
        return book.size();
    }

    private Round booked(int round) {
        index(round >= 0 && round < book.size());
        return book.get(round);
    }

    private Round round(int round) {
        return round == NONE && running != null ? running : booked(round);
    }

    int told(int round, int what) {
        state(d != 0);
        Round r = round(round);
        index(what >= 0 && what <= 2);
        return what == 0 ? r.t : what == 1 ? r.exponent : r.prime();
    }

    int form(int round, int which, int part) {
        state(d != 0);
        Round r = round(round);
        slot(which, part);
        return (int) (which == 0 ? r.x : which == 1 ? r.y() : r.proof()).part(part);
    }

    /** A booked round was made as told, so it always holds. */
    boolean verify(int round) {
        state(d != 0);
        booked(round);
        return true;
    }

    void put(int i, int a, int b) {
        state(d != 0);
        slot(i);
        argument(a >= 1 && a <= 100000 && b >= -100000 && b <= 100000);
        SlowForm form = SlowForm.with(d, a, b);
        argument(form != null);
        slots[i] = form;
    }

    long buffer(int i, int part) {
        state(d != 0);
        slot(i, part);
        there(slots[i]);
        return slots[i].part(part);
    }

    void reduce(int i, int k) {
        state(d != 0);
        slot(i, k);
        there(slots[i]);
        slots[k] = slots[i].reduced();
    }

    void multiply(int i, int j, int k) {
        state(d != 0);
        slot(i, j, k);
        there(slots[i], slots[j]);
        slots[k] = slots[i].times(slots[j]);
    }

    void raise(int i, int n, int k) {
        state(d != 0);
        slot(i, k);
        argument(n >= 0);
        there(slots[i]);
        slots[k] = slots[i].power(n);
    }

    int test(int round) {
        state(d != 0);
        Round r = booked(round);
        there(slots);
        if (!slots[0].equals(r.x)) {
            return 1;
        }
        if (!slots[1].isReduced() || !slots[2].isReduced()) {
            return 2;
        }
        BigInteger prime = BigInteger.valueOf(primeOf(slots[0], slots[1], r.t));
        BigInteger rest = BigInteger.TWO.modPow(BigInteger.valueOf(r.t), prime);
        SlowForm reached = slots[2].power(prime).times(slots[0].power(rest));
        return reached.equals(slots[1]) ? 0 : 3;
    }

    int order(int most) {
        state(d != 0);
        argument(most >= 1 && most <= 1000);
        SlowForm g = SlowForm.generator(d);
        SlowForm power = g;
        for (int n = 1; n <= most; n++) {
            if (power.equals(SlowForm.unit(d))) {
                return n;
            }
            power = power.times(g);
        }
        return 0;
    }

    int classes() {
        state(d != 0);
        argument(d <= 50000);
        int count = 0;
        for (long a = 1; 3 * a * a <= d; a++) {
            for (long b = -a; b <= a; b++) {
                SlowForm form = SlowForm.with(d, a, b);
                if (form != null && form.isReduced()) {
                    count++;
                }
            }
        }
        return count;
    }
}
