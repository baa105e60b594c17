import java.lang.reflect.Array;
import java.lang.reflect.Field;

/**
 * Promise 11 where a round does not hold. No run of calls books such a round, so this test alone reaches
 * into the object: it changes one number of a booked round, and looks whether verify sees it.
 */
public final class VerifyTest {
    private static final int T = 40;

    public static void main(String[] args) throws ReflectiveOperationException {
        Check check = new Check();
        check.due("untouched", booked().verify(1), true);
        for (String number : new String[] {"exponent", "prime", "squarings"}) {
            SquaringClock clock = booked();
            Object round = round(clock, 1);
            Field field = field(round, number);
            field.setInt(round, field.getInt(round) + 1);
            check.due("another " + number, clock.verify(1), false);
            check.due("the round before it", clock.verify(0), true);
        }
        for (String form : new String[] {"x", "y", "proof"}) {
            SquaringClock clock = booked();
            Object changed = field(round(clock, 1), form).get(round(clock, 1));
            Field b = field(changed, "b");
            b.setLong(changed, -b.getLong(changed));
            check.due("another " + form, clock.verify(1), false);
        }
        check.end("VerifyTest");
    }

    private static SquaringClock booked() {
        SquaringClock clock = new SquaringClock();
        clock.discriminant(999999991);
        for (int i = 0; i < 2; i++) {
            clock.begin(T);
            clock.work(T);
            clock.prove(T);
            clock.publish();
        }
        return clock;
    }

    private static Object round(SquaringClock clock, int index) throws ReflectiveOperationException {
        return Array.get(field(clock, "book").get(clock), index);
    }

    private static Field field(Object owner, String name) throws ReflectiveOperationException {
        Field field = owner.getClass().getDeclaredField(name);
        field.setAccessible(true);
        return field;
    }
}
