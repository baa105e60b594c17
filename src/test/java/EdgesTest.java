import java.math.BigInteger;

/**
 * One run of calls for each sentence of the document that names a boundary: what is just small or large
 * enough, what is just not, empty, full, wrapping. Which exception a refused call throws in which state,
 * and that it changes nothing, stands in RefusedCallsTest.
 */
public final class EdgesTest {
    private static final String FULL = "begin 2\nwork 2\nprove 2\npublish\n".repeat(16);

    private final Check check = new Check();

    public static void main(String[] args) {
        EdgesTest test = new EdgesTest();
        test.termsForms();
        test.termsProductAndPower();
        test.termsExponent();
        test.termsMixWraps();
        test.termsPrime();
        test.termsProof();
        test.termsSteps();
        test.lastOfAllCalls();
        test.promise1();
        test.promise2();
        test.promise3();
        test.promise4();
        test.promise5();
        test.promise6();
        test.promise7();
        test.promise8();
        test.promise9();
        test.promise10();
        test.promise11();
        test.promise12Numbers();
        test.promise12NoSuchForm();
        test.promise13();
        test.promise14();
        test.promise15();
        test.promise16();
        test.promise17();
        test.promise17WhatHolds();
        test.promise18();
        test.promise19();
        test.check.end("EdgesTest");
    }

    private void edge(String sentence, String lines) {
        Script.run(check, sentence, lines);
    }

    private void termsForms() {
        edge("Terms: -a < b, so b is not -a", """
                discriminant 39
                put 0 3 -3
                reduce 0 1
                show 1 -> 3 3 4
                put 0 1 -1
                reduce 0 1
                show 1 -> 1 1 10""");
        edge("Terms: -a < b, so b may be 1 above it", """
                discriminant 23
                put 0 2 -1
                reduce 0 1
                show 1 -> 2 -1 3""");
        edge("Terms: b <= a, so b may be a", """
                discriminant 39
                put 0 3 3
                reduce 0 1
                show 1 -> 3 3 4""");
        edge("Terms: b <= a, so b is not above it", """
                discriminant 23
                put 0 1 3
                reduce 0 1
                show 1 -> 1 1 6""");
        edge("Terms: a <= c, so a is not above it", """
                discriminant 23
                put 0 3 1
                reduce 0 1
                show 1 -> 2 -1 3""");
        edge("Terms: b is not below 0 when a is c", """
                discriminant 15
                put 0 2 -1
                reduce 0 1
                show 1 -> 2 1 2
                put 0 2 1
                reduce 0 1
                show 1 -> 2 1 2""");
    }

    private void termsProductAndPower() {
        edge("Terms: a and f without a common divisor, other forms being taken where there is one", """
                discriminant 47
                put 0 2 1
                multiply 0 0 1
                show 1 -> 3 -1 4
                put 1 2 -1
                multiply 0 1 2
                show 2 -> 1 1 12""");
        edge("Terms: a common divisor of the first numbers and of the discriminant", """
                discriminant 15
                put 0 3 3
                multiply 0 0 1
                show 1 -> 1 1 4
                put 0 5 5
                put 1 3 3
                multiply 0 1 2
                show 2 -> 1 1 4""");
        edge("Terms: the power with 0 is (1, 1, (1 + d) / 4)", """
                discriminant 999999999
                put 0 2 1
                raise 0 0 0
                show 0 -> 1 1 250000000""");
        edge("Terms: the generator is (2, 1, (1 + d) / 8) reduced, of d 7 (1, 1, 2)", """
                discriminant 7
                order 1 -> 1
                begin 1
                look -1 0 -> 1 1 2""");
        edge("Terms: the generator, where a is c", """
                discriminant 15
                order 1 -> 0
                order 2 -> 2""");
    }

    private void termsExponent() {
        edge("Terms: the exponent is 1 more than the lowest 16 bits: least", """
                discriminant 546711
                begin 1 -> 1
                look -1 0 -> 2 1 68339""");
        edge("Terms: the exponent is 1 more than the lowest 16 bits: largest", """
                discriminant 1237015
                begin 1 -> 65536
                look -1 0 -> 196 -173 1616""");
        edge("Terms: if there are some, a and b of the y of the last one are mixed in", """
                discriminant 23
                begin 7 -> 38084
                work 7
                prove 7
                publish -> 1
                begin 7 -> 30764""");
    }

    /** The mixing without ints: numbers 0 .. 2^32 - 1, so that nothing wraps by itself. */
    private static BigInteger mixed(BigInteger h, long v) {
        BigInteger all = BigInteger.ONE.shiftLeft(32);
        BigInteger product = h.xor(BigInteger.valueOf(v).mod(all))
                .multiply(BigInteger.valueOf(0x5BD1E995L)).mod(all);
        return product.xor(product.shiftRight(15));
    }

    private static int low16(BigInteger h) {
        return h.intValue() & 0xFFFF;
    }

    private void termsMixWraps() {
        int below = 0;
        for (int i = 0; i < 300; i++) {
            int d = 7 + 8 * (i * 416666);
            SquaringClock clock = new SquaringClock();
            clock.discriminant(d);
            BigInteger h = mixed(mixed(BigInteger.ONE, d), 0);
            check.numbers("Terms: products wrap, exponent of " + d, clock.begin(2), low16(h) + 1);
            clock.work(2);
            clock.prove(2);
            clock.publish();
            int a = clock.form(0, 1, 0);
            int b = clock.form(0, 1, 1);
            below += b < 0 ? 1 : 0;
            h = mixed(mixed(mixed(mixed(BigInteger.ONE, d), 1), a), b);
            check.numbers("Terms: b below 0 is mixed as an int, exponent after " + d, clock.begin(2), low16(h) + 1);
        }
        check.due("b was below 0 in some", below > 50, true);
    }

    private void termsPrime() {
        edge("Terms: the prime is not below 3 and the lowest 16 bits: least, 3 itself", """
                discriminant 67807
                begin 8
                work 8
                told -1 2 -> 3""");
        edge("Terms: the prime is not below that sum: 65537 itself", """
                discriminant 31311
                begin 3
                work 3
                told -1 2 -> 65537""");
        edge("Terms: the prime is not below that sum: largest, 65539 from 65538", """
                discriminant 49255
                begin 4
                work 4
                told -1 2 -> 65539""");
        edge("Terms: a sum that is the square of a prime, 251 * 251, is none", """
                discriminant 479
                begin 4
                work 4
                told -1 2 -> 63029""");
    }

    private void termsProof() {
        edge("Terms: 2^T / prime, rounded down, is 0 when 2^T is less", """
                discriminant 120503
                begin 1
                work 1
                told -1 2 -> 3
                prove 1
                look -1 2 -> 1 1 30126
                publish
                verify 0 -> true""");
        edge("Terms: 2^T / prime, rounded down, is 85 for 2^8 / 3", """
                discriminant 67807
                begin 8
                work 8
                look -1 0 -> 104 1 163
                put 0 104 1
                raise 0 85 1
                show 1 -> 19 17 896
                prove 8
                look -1 2 -> 19 17 896
                publish
                verify 0 -> true""");
    }

    private void termsSteps() {
        edge("Terms: in each step the rest is doubled, and if that is not less than the prime ..", """
                discriminant 67807
                begin 8
                work 8
                look -1 2 -> 1 1 16952
                prove 1 -> 7
                look -1 2 -> 1 1 16952
                prove 1 -> 6
                look -1 2 -> 104 1 163
                prove 1 -> 5
                put 0 104 1
                raise 0 2 0
                show 0 -> 86 -41 202
                look -1 2 -> 86 -41 202""");
    }

    /** The document limits an object to 512 calls: the 512th is still answered. */
    private void lastOfAllCalls() {
        SquaringClock clock = new SquaringClock();
        Script.runOn(check, "What it is: 512 calls", clock, "discriminant 2047\n" + FULL + "put 0 16 1");
        for (int call = 67; call < 512; call++) {
            check.due("verify, call " + call, clock.verify(call % 16), true);
        }
        check.numbers("the 512th call", clock.rounds(), 16);
    }

    private void promise1() {
        edge("Promise 1: no discriminant", """
                order 1 -> IllegalStateException
                begin 1 -> IllegalStateException
                rounds -> 0
                drop -> false""");
    }

    private void promise2() {
        edge("Promise 2: d is 7 at least", """
                discriminant 6 -> IllegalArgumentException
                discriminant -1 -> IllegalArgumentException
                discriminant -9 -> IllegalArgumentException
                order 1 -> IllegalStateException
                discriminant 7
                classes -> 1""");
        edge("Promise 2: d is 1000000000 at most", """
                discriminant 1000000007 -> IllegalArgumentException
                discriminant 1000000000 -> IllegalArgumentException
                discriminant 2147483647 -> IllegalArgumentException
                discriminant 999999999
                put 0 1 1
                show 0 -> 1 1 250000000""");
        edge("Promise 2: d is 7 modulo 8", """
                discriminant 8 -> IllegalArgumentException
                discriminant 9 -> IllegalArgumentException
                discriminant 10 -> IllegalArgumentException
                discriminant 11 -> IllegalArgumentException
                discriminant 12 -> IllegalArgumentException
                discriminant 13 -> IllegalArgumentException
                discriminant 14 -> IllegalArgumentException
                discriminant 16 -> IllegalArgumentException
                discriminant 15""");
        edge("Promise 2: the book is empty, and so is the buffer, also with the same d and a full book",
                "discriminant 39\n" + FULL + """
                put 0 1 1
                put 1 2 1
                put 2 3 3
                discriminant 39
                rounds -> 0
                told 0 0 -> IndexOutOfBoundsException
                verify 0 -> IndexOutOfBoundsException
                buffer 0 0 -> NoSuchElementException
                buffer 1 0 -> NoSuchElementException
                buffer 2 0 -> NoSuchElementException
                begin 1
                rounds -> 0""");
        edge("Promise 2: refused from when a round is begun until it is booked", """
                discriminant 23
                begin 1
                discriminant 15 -> IllegalStateException
                work 1
                discriminant 15 -> IllegalStateException
                prove 1
                discriminant 15 -> IllegalStateException
                discriminant 14 -> IllegalArgumentException
                classes -> 3
                publish
                discriminant 15
                classes -> 2
                begin 1
                drop
                discriminant 23
                classes -> 3""");
    }

    private void promise3() {
        edge("Promise 3: t is 1 at least", """
                discriminant 15
                begin 0 -> IllegalArgumentException
                begin -1 -> IllegalArgumentException
                told -1 0 -> IndexOutOfBoundsException
                begin 1 -> 7584
                told -1 0 -> 1""");
        edge("Promise 3: t is 500 at most", """
                discriminant 15
                begin 501 -> IllegalArgumentException
                begin 500 -> 7584
                told -1 0 -> 500
                work 499 -> 1""");
        edge("Promise 3: one is running", """
                discriminant 15
                begin 3
                begin 4 -> IllegalStateException
                told -1 0 -> 3
                work 3
                begin 4 -> IllegalStateException
                prove 3
                begin 4 -> IllegalStateException
                publish
                begin 4
                drop
                begin 5
                told -1 0 -> 5""");
        edge("Promise 3: 16 are booked", "discriminant 39\n" + FULL.substring(0, FULL.length() - 8) + """
                rounds -> 15
                publish -> 16
                begin 1 -> IllegalStateException
                drop -> false
                rounds -> 16""");
        edge("Promise 3: 15 are booked, so one more may be begun, and after a drop too",
                "discriminant 39\n" + FULL.substring(0, FULL.length() * 15 / 16) + """
                begin 1
                drop -> true
                rounds -> 15
                begin 2
                told -1 0 -> 2""");
    }

    private void promise4() {
        edge("Promise 4: n is 1 at least", """
                discriminant 23
                begin 3
                work 0 -> IllegalArgumentException
                work -500 -> IllegalArgumentException
                work 1 -> 2""");
        edge("Promise 4: n is 500 at most", """
                discriminant 23
                begin 500
                work 501 -> IllegalArgumentException
                work 500 -> 0""");
        edge("Promise 4: so many, or those that are left", """
                discriminant 47
                begin 3
                look -1 1 -> 3 -1 4
                work 2 -> 1
                look -1 1 -> 3 1 4
                work 2 -> 0
                look -1 1 -> 2 1 6
                drop
                begin 3
                work 3 -> 0
                look -1 1 -> 2 1 6
                drop
                begin 3
                work 4 -> 0
                look -1 1 -> 2 1 6""");
        edge("Promise 4: no round is running", """
                discriminant 23
                work 1 -> IllegalStateException
                begin 1
                drop
                work 1 -> IllegalStateException
                begin 1
                work 1 -> 0
                prove 1
                publish
                work 1 -> IllegalStateException""");
        edge("Promise 4: none are left", """
                discriminant 23
                begin 1
                work 1 -> 0
                work 1 -> IllegalStateException
                prove 1
                work 1 -> IllegalStateException""");
    }

    private void promise5() {
        edge("Promise 5: n is 1 at least", """
                discriminant 23
                begin 3
                work 3
                prove 0 -> IllegalArgumentException
                prove -500 -> IllegalArgumentException
                prove 1 -> 2""");
        edge("Promise 5: n is 500 at most", """
                discriminant 23
                begin 500
                work 500
                prove 501 -> IllegalArgumentException
                prove 500 -> 0""");
        edge("Promise 5: so many, or those that are left", """
                discriminant 67807
                begin 8
                work 8
                prove 7 -> 1
                prove 2 -> 0
                look -1 2 -> 19 17 896
                drop
                begin 8
                work 8
                prove 8 -> 0
                look -1 2 -> 19 17 896
                drop
                begin 8
                work 8
                prove 9 -> 0
                look -1 2 -> 19 17 896""");
        edge("Promise 5: no round is running", """
                discriminant 23
                prove 1 -> IllegalStateException
                begin 1
                work 1
                drop
                prove 1 -> IllegalStateException
                begin 1
                work 1
                prove 1 -> 0
                publish
                prove 1 -> IllegalStateException""");
        edge("Promise 5: squarings are left", """
                discriminant 23
                begin 2
                prove 1 -> IllegalStateException
                work 1 -> 1
                prove 1 -> IllegalStateException
                work 1 -> 0
                prove 1 -> 1""");
        edge("Promise 5: no steps are left", """
                discriminant 23
                begin 1
                work 1
                prove 1 -> 0
                prove 1 -> IllegalStateException
                publish -> 1""");
    }

    private void promise6() {
        edge("Promise 6: none is running", """
                discriminant 23
                publish -> IllegalStateException
                begin 1
                work 1
                prove 1
                drop
                publish -> IllegalStateException
                rounds -> 0""");
        edge("Promise 6: something of it is left", """
                discriminant 23
                begin 2
                publish -> IllegalStateException
                work 1
                publish -> IllegalStateException
                work 1
                publish -> IllegalStateException
                prove 1
                publish -> IllegalStateException
                rounds -> 0
                prove 1
                publish -> 1
                publish -> IllegalStateException
                rounds -> 1""");
        edge("Promise 6: how many are booked then, to the last one",
                "discriminant 39\n" + FULL.substring(0, FULL.length() * 15 / 16) + """
                begin 1
                work 1
                prove 1
                publish -> 16
                publish -> IllegalStateException
                told 15 0 -> 1""");
    }

    private void promise7() {
        edge("Promise 7: whether there was one", """
                drop -> false
                discriminant 23
                drop -> false
                begin 2
                drop -> true
                drop -> false
                begin 2
                work 1
                drop -> true
                begin 2
                work 2
                drop -> true
                begin 2
                work 2
                prove 2
                drop -> true
                drop -> false
                rounds -> 0
                begin 1
                work 1
                prove 1
                publish
                drop -> false
                rounds -> 1""");
        edge("Promise 7: the round that is running alone, not the book or the buffer", """
                discriminant 23
                begin 7
                work 7
                prove 7
                publish
                put 1 2 1
                begin 9
                work 9
                drop -> true
                rounds -> 1
                look 0 1 -> 2 1 3
                told 0 0 -> 7
                show 1 -> 2 1 3
                look -1 0 -> IndexOutOfBoundsException
                begin 4
                told -1 2 -> 0
                look -1 2 -> 1 1 6
                work 4
                prove 1 -> 3""");
    }

    private void promise8() {
        edge("Promise 8: none, with and without a discriminant", """
                rounds -> 0
                discriminant 23
                rounds -> 0
                begin 1
                work 1
                prove 1
                rounds -> 0
                publish
                rounds -> 1""");
        edge("Promise 8: a full book", "discriminant 39\n" + FULL + """
                rounds -> 16
                discriminant 38 -> IllegalArgumentException
                rounds -> 16
                discriminant 39
                rounds -> 0""");
    }

    private void promise9() {
        edge("Promise 9: no such round", """
                discriminant 15
                told -1 0 -> IndexOutOfBoundsException
                told 0 0 -> IndexOutOfBoundsException
                begin 3
                told 0 0 -> IndexOutOfBoundsException
                told -2 0 -> IndexOutOfBoundsException
                told -1 0 -> 3
                work 3
                prove 3
                publish
                told -1 0 -> IndexOutOfBoundsException
                told 0 0 -> 3
                told 1 0 -> IndexOutOfBoundsException""");
        edge("Promise 9: no such what", """
                discriminant 15
                begin 3
                told -1 -1 -> IndexOutOfBoundsException
                told -1 3 -> IndexOutOfBoundsException
                told -1 2 -> 0
                work 3
                prove 3
                publish
                told 0 -1 -> IndexOutOfBoundsException
                told 0 3 -> IndexOutOfBoundsException
                told 0 2 -> 43607""");
        edge("Promise 9: the prime is 0 as long as squarings are left", """
                discriminant 15
                begin 3
                told -1 2 -> 0
                work 2
                told -1 2 -> 0
                work 1
                told -1 2 -> 43607
                drop
                begin 3
                told -1 2 -> 0""");
        edge("Promise 9: the last round of a full book", "discriminant 39\n" + FULL + """
                told 15 0 -> 2
                told 16 0 -> IndexOutOfBoundsException
                told -1 0 -> IndexOutOfBoundsException""");
    }

    private void promise10() {
        edge("Promise 10: no such round", """
                discriminant 23
                form -1 0 0 -> IndexOutOfBoundsException
                form 0 0 0 -> IndexOutOfBoundsException
                begin 7
                form -1 0 0 -> 2
                form 0 0 0 -> IndexOutOfBoundsException
                form -2 0 0 -> IndexOutOfBoundsException
                work 7
                prove 7
                publish
                form -1 0 0 -> IndexOutOfBoundsException
                form 0 0 0 -> 2
                form 1 0 0 -> IndexOutOfBoundsException""");
        edge("Promise 10: no such which or part", """
                discriminant 23
                begin 7
                form -1 -1 0 -> IndexOutOfBoundsException
                form -1 3 0 -> IndexOutOfBoundsException
                form -1 0 -1 -> IndexOutOfBoundsException
                form -1 0 3 -> IndexOutOfBoundsException
                form -1 2 2 -> 6""");
        edge("Promise 10: as they are so far", """
                discriminant 67807
                begin 8
                look -1 0 -> 104 1 163
                look -1 1 -> 104 1 163
                look -1 2 -> 1 1 16952
                work 1
                look -1 0 -> 104 1 163
                look -1 1 -> 86 -41 202
                look -1 2 -> 1 1 16952
                work 7
                prove 2
                look -1 2 -> 104 1 163""");
        edge("Promise 10: the last round of a full book", "discriminant 39\n" + FULL + """
                form 15 0 0
                form 16 0 0 -> IndexOutOfBoundsException
                form -1 0 0 -> IndexOutOfBoundsException""");
        edge("Promise 10: the largest c", """
                discriminant 999999999
                begin 1
                look -1 2 -> 1 1 250000000""");
    }

    private void promise11() {
        edge("Promise 11: no such round, the running one neither", """
                discriminant 23
                verify 0 -> IndexOutOfBoundsException
                verify -1 -> IndexOutOfBoundsException
                begin 1
                verify -1 -> IndexOutOfBoundsException
                verify 0 -> IndexOutOfBoundsException
                work 1
                prove 1
                verify -1 -> IndexOutOfBoundsException
                verify 0 -> IndexOutOfBoundsException
                publish
                verify 0 -> true
                verify 1 -> IndexOutOfBoundsException
                verify -1 -> IndexOutOfBoundsException""");
        edge("Promise 11: the least and the largest T", """
                discriminant 999999991
                begin 1
                work 1
                prove 1
                publish
                begin 500
                work 500
                prove 500
                publish
                verify 0 -> true
                verify 1 -> true""");
        edge("Promise 11: the last round of a full book", "discriminant 39\n" + FULL + """
                verify 0 -> true
                verify 15 -> true
                verify 16 -> IndexOutOfBoundsException""");
    }

    private void promise12Numbers() {
        edge("Promise 12: i is 0 .. 2", """
                discriminant 23
                put -1 1 1 -> IndexOutOfBoundsException
                put 3 1 1 -> IndexOutOfBoundsException
                put 3 0 0 -> IndexOutOfBoundsException
                put 0 1 1
                put 2 2 1
                show 0 -> 1 1 6
                show 1 -> NoSuchElementException
                show 2 -> 2 1 3""");
        edge("Promise 12: a is 1 at least", """
                discriminant 23
                put 0 0 1 -> IllegalArgumentException
                put 0 -1 1 -> IllegalArgumentException
                put 0 -2 1 -> IllegalArgumentException
                show 0 -> NoSuchElementException
                put 0 1 1
                show 0 -> 1 1 6""");
        edge("Promise 12: a is 100000 at most", """
                discriminant 999999999
                put 0 100000 1
                show 0 -> 100000 1 2500
                discriminant 800007
                put 0 100001 1 -> IllegalArgumentException""");
        edge("Promise 12: b is from -100000 to 100000", """
                discriminant 7
                put 0 1 99999
                show 0 -> 1 99999 2499950002
                put 1 1 -99999
                show 1 -> 1 -99999 2499950002
                put 2 1 100000 -> IllegalArgumentException
                put 2 1 -100000 -> IllegalArgumentException
                put 2 1 100001 -> IllegalArgumentException
                put 2 1 -100001 -> IllegalArgumentException
                put 2 1 2147483647 -> IllegalArgumentException
                put 2 1 -2147483648 -> IllegalArgumentException
                show 2 -> NoSuchElementException""");
        edge("Promise 12: the largest c, which is no int", """
                discriminant 999999999
                put 0 1 -99999
                show 0 -> 1 -99999 2749950000""");
    }

    private void promise12NoSuchForm() {
        edge("Promise 12: there is no form when 4 * a does not divide", """
                discriminant 23
                put 0 1 0 -> IllegalArgumentException
                put 0 2 2 -> IllegalArgumentException
                put 0 5 1 -> IllegalArgumentException
                put 0 12 1 -> IllegalArgumentException
                show 0 -> NoSuchElementException
                put 0 6 1
                show 0 -> 6 1 1""");
        edge("Promise 12: there is no form when a, b and c have a common divisor", """
                discriminant 63
                put 0 3 3 -> IllegalArgumentException
                put 0 3 -3 -> IllegalArgumentException
                put 0 6 3 -> IllegalArgumentException
                put 0 6 9 -> IllegalArgumentException
                put 0 9 9
                show 0 -> 9 9 4
                discriminant 71407
                put 0 101 101 -> IllegalArgumentException
                put 0 202 101 -> IllegalArgumentException
                put 0 10201 10201
                show 0 -> 10201 10201 2552""");
        edge("Promise 12: two of them may have one", """
                discriminant 15
                put 0 3 3
                show 0 -> 3 3 2
                put 0 2 3
                show 0 -> 2 3 3
                put 0 2 1
                show 0 -> 2 1 2""");
        edge("Promise 12: the form is put as it is, over an old one, and a refused one leaves that", """
                discriminant 23
                put 0 2 1
                put 0 3 5
                show 0 -> 3 5 4
                put 0 3 4 -> IllegalArgumentException
                show 0 -> 3 5 4""");
    }

    private void promise13() {
        edge("Promise 13: i or part is not 0 .. 2", """
                discriminant 23
                put 0 2 -1
                buffer -1 0 -> IndexOutOfBoundsException
                buffer 3 0 -> IndexOutOfBoundsException
                buffer 0 -1 -> IndexOutOfBoundsException
                buffer 0 3 -> IndexOutOfBoundsException
                buffer 1 3 -> IndexOutOfBoundsException
                buffer 0 0 -> 2
                buffer 0 1 -> -1
                buffer 0 2 -> 3""");
        edge("Promise 13: there is none", """
                discriminant 23
                buffer 0 0 -> NoSuchElementException
                buffer 1 0 -> NoSuchElementException
                buffer 2 0 -> NoSuchElementException
                put 1 2 1
                buffer 0 0 -> NoSuchElementException
                buffer 1 0 -> 2
                buffer 2 0 -> NoSuchElementException""");
    }

    private void promise14() {
        edge("Promise 14: i or k is not 0 .. 2", """
                discriminant 23
                reduce 0 3 -> IndexOutOfBoundsException
                put 0 3 5
                reduce -1 0 -> IndexOutOfBoundsException
                reduce 3 0 -> IndexOutOfBoundsException
                reduce 0 -1 -> IndexOutOfBoundsException
                reduce 0 3 -> IndexOutOfBoundsException
                show 0 -> 3 5 4
                reduce 0 2
                show 2 -> 2 1 3""");
        edge("Promise 14: form i is none, and form k stays", """
                discriminant 23
                put 1 3 5
                reduce 0 1 -> NoSuchElementException
                show 1 -> 3 5 4
                reduce 0 0 -> NoSuchElementException
                reduce 1 0
                show 0 -> 2 1 3
                show 1 -> 3 5 4""");
        edge("Promise 14: in its own place, and again", """
                discriminant 23
                put 0 3 5
                reduce 0 0
                show 0 -> 2 1 3
                reduce 0 0
                show 0 -> 2 1 3""");
        edge("Promise 14: the largest numbers", """
                discriminant 999999999
                put 0 1 99999
                reduce 0 0
                show 0 -> 1 1 250000000
                put 0 100000 1
                reduce 0 0
                show 0 -> 2500 -1 100000""");
    }

    private void promise15() {
        edge("Promise 15: i, j or k is not 0 .. 2", """
                discriminant 23
                multiply 0 0 3 -> IndexOutOfBoundsException
                put 0 2 1
                multiply -1 0 0 -> IndexOutOfBoundsException
                multiply 3 0 0 -> IndexOutOfBoundsException
                multiply 0 -1 0 -> IndexOutOfBoundsException
                multiply 0 3 0 -> IndexOutOfBoundsException
                multiply 0 0 -1 -> IndexOutOfBoundsException
                multiply 0 0 3 -> IndexOutOfBoundsException
                multiply 1 3 0 -> IndexOutOfBoundsException
                show 0 -> 2 1 3""");
        edge("Promise 15: form i or j is none", """
                discriminant 23
                multiply 0 0 0 -> NoSuchElementException
                put 0 2 1
                multiply 1 0 0 -> NoSuchElementException
                multiply 0 1 0 -> NoSuchElementException
                multiply 1 1 0 -> NoSuchElementException
                show 0 -> 2 1 3
                show 1 -> NoSuchElementException""");
        edge("Promise 15: i, j and k may be the same", """
                discriminant 47
                put 0 2 1
                multiply 0 0 0
                show 0 -> 3 -1 4
                put 1 2 1
                multiply 0 1 1
                show 1 -> 3 1 4
                show 0 -> 3 -1 4
                multiply 0 1 0
                show 0 -> 1 1 12""");
        edge("Promise 15: the product is reduced, also of a form with the unit", """
                discriminant 23
                put 0 3 5
                put 1 1 -99999
                multiply 0 1 2
                show 2 -> 2 1 3
                multiply 1 1 2
                show 2 -> 1 1 6""");
        edge("Promise 15: the largest numbers", """
                discriminant 999999999
                put 0 99999 99699
                put 1 99995 64179
                multiply 0 1 2
                show 2 -> 5710 -5649 45180
                multiply 1 0 2
                show 2 -> 5710 -5649 45180
                multiply 1 1 2
                show 2 -> 1120 319 223237
                put 0 1 99999
                multiply 0 1 2
                show 2 -> 12798 12609 22640""");
    }

    private void promise16() {
        edge("Promise 16: i or k is not 0 .. 2", """
                discriminant 47
                put 0 2 1
                raise -1 1 0 -> IndexOutOfBoundsException
                raise 3 1 0 -> IndexOutOfBoundsException
                raise 0 1 -1 -> IndexOutOfBoundsException
                raise 0 1 3 -> IndexOutOfBoundsException
                raise 3 -1 0 -> IndexOutOfBoundsException
                show 0 -> 2 1 6""");
        edge("Promise 16: n is below 0", """
                discriminant 47
                raise 0 -1 0 -> IllegalArgumentException
                put 0 2 1
                raise 0 -1 0 -> IllegalArgumentException
                raise 0 -2147483648 0 -> IllegalArgumentException
                show 0 -> 2 1 6
                raise 0 0 1
                show 1 -> 1 1 12
                raise 0 1 1
                show 1 -> 2 1 6""");
        edge("Promise 16: the largest n", """
                discriminant 47
                put 0 2 1
                raise 0 2147483647 1
                show 1 -> 3 -1 4
                raise 0 2147483646 1
                show 1 -> 2 1 6
                discriminant 999999999
                put 0 99995 64179
                raise 0 2147483647 1
                show 1 -> 8420 -1511 29759""");
        edge("Promise 16: form i is none, for the power with 0 too", """
                discriminant 47
                put 1 2 1
                raise 0 1 1 -> NoSuchElementException
                raise 0 0 1 -> NoSuchElementException
                show 1 -> 2 1 6""");
        edge("Promise 16: in its own place", """
                discriminant 47
                put 2 2 1
                raise 2 3 2
                show 2 -> 3 1 4
                raise 2 0 2
                show 2 -> 1 1 12""");
    }

    private void promise17() {
        String booked = "discriminant 23\nbegin 7\nwork 7\nprove 7\npublish\n";
        edge("Promise 17: no such round, the running one neither", booked + """
                put 0 2 -1
                put 1 2 1
                put 2 1 1
                test -1 -> IndexOutOfBoundsException
                test 1 -> IndexOutOfBoundsException
                begin 7
                test -1 -> IndexOutOfBoundsException
                test 1 -> IndexOutOfBoundsException
                test 0 -> 0""");
        edge("Promise 17: one of the forms is none", booked + """
                test 1 -> IndexOutOfBoundsException
                test 0 -> NoSuchElementException
                put 1 2 1
                put 2 1 1
                test 0 -> NoSuchElementException
                put 0 2 -1
                test 0 -> 0""");
        edge("Promise 17: form 1 is none", booked + """
                put 0 1 1
                put 2 1 1
                test 0 -> NoSuchElementException""");
        edge("Promise 17: form 2 is none", booked + """
                put 0 1 1
                put 1 1 1
                test 0 -> NoSuchElementException""");
        edge("Promise 17: form 0 is not x, though it is alike to it", booked + """
                put 0 2 3
                put 1 2 1
                put 2 1 1
                test 0 -> 1
                put 0 3 1
                test 0 -> 1
                put 0 2 1
                test 0 -> 1
                put 1 1 3
                test 0 -> 1
                put 0 2 -1
                test 0 -> 2""");
        edge("Promise 17: form 1 or 2 is not reduced", booked + """
                put 0 2 -1
                put 1 2 5
                put 2 1 1
                test 0 -> 2
                put 1 3 -1
                test 0 -> 2
                put 1 2 1
                put 2 1 -1
                test 0 -> 2
                put 2 1 3
                test 0 -> 2
                put 2 6 -1
                test 0 -> 2
                put 2 1 1
                test 0 -> 0""");
        edge("Promise 17: not reduced, as b is below 0 and a is c", """
                discriminant 15
                begin 3
                work 3
                prove 3
                publish
                look 0 0 -> 1 1 4
                put 0 1 1
                put 1 1 1
                put 2 2 -1
                test 0 -> 2
                put 2 2 1
                test 0 -> 3
                put 2 1 1
                test 0 -> 0""");
    }

    /** All y and proofs of a small discriminant: whether it holds hangs on the prime of that y, not the booked one. */
    private void promise17WhatHolds() {
        int d = 47;
        int t = 9;
        SquaringClock clock = new SquaringClock();
        clock.discriminant(d);
        clock.begin(t);
        clock.work(t);
        clock.prove(t);
        clock.publish();
        SlowForm x = SlowForm.with(d, clock.form(0, 0, 0), clock.form(0, 0, 1));
        clock.put(0, (int) x.part(0), (int) x.part(1));
        int holding = 0;
        for (int m = 0; m < 5; m++) {
            SlowForm y = x.power(m);
            clock.put(1, (int) y.part(0), (int) y.part(1));
            int prime = SlowClock.primeOf(x, y, t);
            for (int n = 0; n < 5; n++) {
                SlowForm proof = x.power(n);
                clock.put(2, (int) proof.part(0), (int) proof.part(1));
                // x has the order 5, so its powers can be told by their exponents alone.
                boolean holds = ((long) n * prime + (1 << t) % prime) % 5 == m;
                holding += holds ? 1 : 0;
                check.numbers("Promise 17: with the prime of x, y and T, y " + m + " proof " + n,
                        clock.test(0), holds ? 0 : 3);
            }
        }
        check.due("Promise 17: some hold that were not booked", holding > 1, true);
    }

    private void promise18() {
        edge("Promise 18: most is 1 at least", """
                discriminant 7
                order 0 -> IllegalArgumentException
                order -1 -> IllegalArgumentException
                order 1 -> 1""");
        edge("Promise 18: most is 1000 at most", """
                discriminant 432311
                order 1001 -> IllegalArgumentException
                order 1000 -> 1000
                order 999 -> 0""");
        edge("Promise 18: 0 when there is none", """
                discriminant 312311
                order 1000 -> 0
                put 0 2 1
                raise 0 1001 0
                show 0 -> 1 1 78078""");
        edge("Promise 18: the least n", """
                discriminant 47
                order 4 -> 0
                order 5 -> 5
                order 6 -> 5
                order 1000 -> 5""");
    }

    private void promise19() {
        edge("Promise 19: d is above 50000", """
                discriminant 50007
                classes -> IllegalArgumentException
                discriminant 999999999
                classes -> IllegalArgumentException
                discriminant 49999
                classes -> 183""");
        edge("Promise 19: the least d", """
                discriminant 7
                classes -> 1""");
        edge("Promise 19: forms with a = b or a = c count once, others with -b too", """
                discriminant 15
                classes -> 2
                discriminant 39
                classes -> 4""");
        edge("Promise 19: what has a common divisor does not count", """
                discriminant 63
                classes -> 4
                discriminant 175
                classes -> 6""");
    }
}
