import java.util.ArrayList;
import java.util.List;
import java.util.Random;

/** Promises 14 to 16 and 19 against SlowForm, which follows the words of the document's Terms. */
public final class ProductTest {
    // Some have squares in them, so that their forms' numbers share divisors with the discriminant.
    private static final int[] SMALL_D =
        {7, 15, 39, 63, 87, 95, 135, 175, 207, 231, 343, 375, 495, 567, 1071, 2047, 2079};
    private static final int[] LARGE_D = {999999999, 999999991, 999999791, 991180575, 847288607};
    private static final int CALLS = 512;

    private final Check check = new Check();
    private SquaringClock clock;
    private int calls;

    public static void main(String[] args) {
        ProductTest test = new ProductTest();
        for (int d : SMALL_D) {
            test.allPairs(d);
        }
        for (int d : LARGE_D) {
            test.somePairs(d);
        }
        test.largestForms();
        test.check.end("ProductTest");
    }

    private void fresh(int d) {
        clock = new SquaringClock();
        clock.discriminant(d);
        calls = 1;
    }

    private void room(int d, int need) {
        if (clock == null || calls + need > CALLS) {
            fresh(d);
        }
        calls += need;
    }

    private void put(int i, SlowForm form) {
        clock.put(i, (int) form.part(0), (int) form.part(1));
    }

    private void slot(String what, int i, SlowForm want) {
        check.due(what, clock.buffer(i, 0) + " " + clock.buffer(i, 1) + " " + clock.buffer(i, 2),
                want.part(0) + " " + want.part(1) + " " + want.part(2));
    }

    private static List<SlowForm> reducedForms(int d) {
        List<SlowForm> all = new ArrayList<>();
        for (long a = 1; 3 * a * a <= d; a++) {
            for (long b = -a + 1; b <= a; b++) {
                SlowForm form = SlowForm.with(d, a, b);
                if (form != null && form.isReduced()) {
                    all.add(form);
                }
            }
        }
        return all;
    }

    private void allPairs(int d) {
        fresh(d);
        List<SlowForm> all = reducedForms(d);
        check.numbers("classes of " + d, clock.classes(), all.size());
        for (SlowForm f : all) {
            for (SlowForm g : all) {
                pair(d, f, g);
            }
        }
    }

    private void pair(int d, SlowForm f, SlowForm g) {
        room(d, 6);
        put(0, f);
        put(1, g);
        clock.multiply(0, 1, 2);
        slot("-" + d + ": " + f + " times " + g, 2, f.times(g));
    }

    private void somePairs(int d) {
        fresh(d);
        Random random = new Random(d);
        for (int i = 0; i < 2000; i++) {
            SlowForm f = someForm(d, random);
            SlowForm g = i % 5 == 0 ? f : someForm(d, random);
            pair(d, f, g);
            room(d, 10);
            put(0, f);
            clock.reduce(0, 1);
            slot("-" + d + ": " + f + " reduced", 1, f.reduced());
            int n = random.nextInt(Integer.MAX_VALUE) >> random.nextInt(31);
            clock.raise(0, n, 2);
            slot("-" + d + ": " + f + " power " + n, 2, f.power(n));
        }
    }

    private static SlowForm someForm(int d, Random random) {
        while (true) {
            long b = 2 * random.nextInt(-50000, 50000) + 1;
            long a = random.nextInt(1, 1 << random.nextInt(1, 17));
            SlowForm form = a > 100000 ? null : SlowForm.with(d, a, b);
            if (form != null) {
                return form;
            }
        }
    }

    /** Where the program's longs have the least to spare. */
    private void largestForms() {
        int d = 999999999;
        fresh(d);
        allPairsOf(d, firstForms(d, 18257, true));
        allPairsOf(d, firstForms(d, 100000, false));
    }

    private void allPairsOf(int d, List<SlowForm> forms) {
        for (SlowForm f : forms) {
            for (SlowForm g : forms) {
                pair(d, f, g);
            }
        }
    }

    private static List<SlowForm> firstForms(int d, long largestA, boolean reduced) {
        List<SlowForm> found = new ArrayList<>();
        for (long a = largestA; a > 0 && found.size() < 40; a--) {
            for (long b = -a + 1; b <= a; b++) {
                SlowForm form = (b * b + d) % (4 * a) != 0 ? null : SlowForm.with(d, a, b);
                if (form != null && (form.isReduced() || !reduced)) {
                    found.add(form);
                }
            }
        }
        return found;
    }
}
