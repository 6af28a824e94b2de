import java.math.BigInteger;
import java.util.function.Consumer;
import java.util.function.Predicate;

/** Each sentence of promises 1 to 22 that names a boundary case, with a test of its own. */
public final class BoundaryTests {
    private static final BigInteger ZERO = BigInteger.ZERO;
    private static final BigInteger ONE = BigInteger.ONE;
    private static final BigInteger GREATEST = Due.GREATEST;
    private static final BigInteger LEAST = GREATEST.negate();
    private static final int MIN = Integer.MIN_VALUE;
    private static final int MAX = Integer.MAX_VALUE;

    public static void main(String[] args) {
        newObject();
        put();
        push();
        pushBelow();
        spread();
        spreadRefused();
        negate();
        add();
        take();
        times();
        divideCut();
        divideDown();
        divideRest();
        divideByZero();
        logic();
        logicRefused();
        shift();
        shiftDown();
        shiftZero();
        change();
        changeBelow();
        changeHow();
        changeFar();
        power();
        powerOfShort();
        powerRefused();
        common();
        commonZero();
        inverse();
        inverseByOne();
        inverseByBelowOne();
        inverseNone();
        modulo();
        moduloNoFactors();
        moduloBelow();
        moduloByOne();
        moduloByBelowOne();
        moduloNoInverse();
        moduloWork();
        moduloWorkOfSize();
        moduloWorkOfZero();
        compare();
        compareNone();
        sign();
        signNone();
        length();
        lengthNone();
        ones();
        onesNone();
        lowest();
        lowestNone();
        word();
        wordNone();
        Look.end("BoundaryTests");
    }

    private static BigInteger big(long v) {
        return BigInteger.valueOf(v);
    }

    /** On an object with these numbers in registers 0, 1, .. the call puts what is due into register 9. */
    private static void becomes(String what, BigInteger want, Predicate<Mill> call, long... values) {
        Mill mill = Look.filled(x -> Look.values(x, values));
        Look.done(what, call.test(mill), mill, 9, want);
    }

    private static void becomes(String what, long want, Predicate<Mill> call, long... values) {
        becomes(what, big(want), call, values);
    }

    private static void newObject() {
        Look.sentence("Promise 1: All registers are 0.");
        Mill used = new Mill();
        Look.same("use of another object", used.put(3, 5) & used.put(15, -5), true);
        Mill mill = new Mill();
        for (int r = 0; r < 16; r++) {
            Look.holds("register " + r, mill, r, 0);
        }
        Look.holds("the other object's", used, 15, -5);
    }

    private static void put() {
        Look.sentence("Promise 2: r becomes v.");
        Mill mill = new Mill();
        long[] values = {0, 1, -1, 0x7FFFFFFFL, 0x80000000L, -0x80000000L, -0x80000001L, 0xFFFFFFFFL, 0x100000000L, -0x100000000L, -0x100000001L,
            Long.MAX_VALUE, Long.MIN_VALUE, Long.MIN_VALUE + 1};
        for (long v : values) {
            Look.done("put " + v, mill.put(7, v), mill, 7, v);
        }
        Look.least(mill, 7);
        Look.done("over the least number", mill.put(7, 1), mill, 7, 1);
        Look.least(mill, 7);
        Look.done("0 over the least number", mill.put(7, 0), mill, 7, 0);
    }

    private static void push() {
        Look.sentence("Promise 3: The SIZE of r becomes that * 2^64 + the number that the 64 bits are (without a sign)");
        long[] pushed = {0, 1, -1, Long.MIN_VALUE, Long.MAX_VALUE, 0xFFFFFFFFL, 0x100000000L};
        for (long bits : pushed) {
            BigInteger unsigned = new BigInteger(Long.toUnsignedString(bits));
            for (long v : new long[] {0, 1, Long.MAX_VALUE}) {
                Mill mill = Look.filled(x -> Look.values(x, v));
                Look.done("push " + bits + " onto " + v, mill.push(0, bits), mill, 0, big(v).shiftLeft(64).add(unsigned));
            }
        }
        Mill mill = new Mill();
        Look.ones(mill, 0, 65472);
        Look.done("all bits onto 2^65472 - 1", mill.push(0, -1), mill, 0, GREATEST);
        Look.ones(mill, 1, 65472);
        Look.done("0 onto 2^65472 - 1", mill.push(1, 0), mill, 1, GREATEST.subtract(Due.two(64).subtract(ONE)));
    }

    private static void pushBelow() {
        Look.sentence("Promise 3: what was below 0 stays so.");
        Mill mill = Look.filled(x -> Look.values(x, -1, Long.MIN_VALUE, -3));
        Look.done("-1, 0", mill.push(0, 0), mill, 0, Due.two(64).negate());
        Look.done("-2^63, all bits", mill.push(1, -1), mill, 1, Due.two(127).add(Due.two(64)).subtract(ONE).negate());
        Look.done("-3, 9", mill.push(2, 9), mill, 2, Due.two(64).multiply(big(3)).add(big(9)).negate());
        Look.ones(mill, 3, 65472);
        Look.same("negate", mill.negate(3, 3), true);
        Look.done("to the least", mill.push(3, -1), mill, 3, LEAST);
        // 0 is not below 0, whatever was there before it.
        Look.same("-5 + 5", mill.put(4, -5) & mill.put(5, 5) & mill.add(4, 4, 5), true);
        Look.done("-5 + 5, 7", mill.push(4, 7), mill, 4, 7);
        Look.same("-0", mill.put(4, 0) & mill.negate(4, 4), true);
        Look.done("-0, 7", mill.push(4, 7), mill, 4, 7);
        Look.same("-5 cut away", mill.put(4, -5) & mill.put(5, 9) & mill.divide(4, 6, 4, 5, false), true);
        Look.done("-5 / 9, 7", mill.push(4, 7), mill, 4, 7);
    }

    private static void spread() {
        Look.sentence("Promise 4: the sum of bits * 2^(64 * k) for k = 0 .. n - 1.");
        Mill mill = Look.filled(x -> Look.values(x, -9));
        Look.done("0 times", mill.spread(0, -1, 0), mill, 0, 0);
        Look.done("once", mill.spread(0, -1, 1), mill, 0, Due.two(64).subtract(ONE));
        Look.done("once, the highest bit", mill.spread(0, Long.MIN_VALUE, 1), mill, 0, Due.two(63));
        Look.done("twice", mill.spread(0, 3, 2), mill, 0, Due.two(64).add(ONE).multiply(big(3)));
        Look.done("1023 times", mill.spread(0, -1, 1023), mill, 0, Due.two(65472).subtract(ONE));
        Look.done("1024 times", mill.spread(0, -1, 1024), mill, 0, GREATEST);
        Look.done("1024 times 1", mill.spread(0, 1, 1024), mill, 0, GREATEST.divide(Due.two(64).subtract(ONE)));
        Look.done("1024 times 0", mill.spread(0, 0, 1024), mill, 0, 0);
        Look.least(mill, 1);
        Look.done("over the least number", mill.spread(1, 6, 1), mill, 1, 6);
    }

    private static void spreadRefused() {
        Look.sentence("Promise 4: Refused, too, when n is not 0 .. 1024.");
        for (int n : new int[] {-1, -2, -1024, 1025, 1026, 2048, MIN, MIN + 1, MAX, MAX - 1, 1 << 26, 1 << 30}) {
            Look.refused("all bits " + n + " times", x -> { }, x -> x.spread(0, -1, n));
            Look.refused("0 " + n + " times, which would fit", x -> { }, x -> x.spread(0, 0, n));
        }
    }

    private static void negate() {
        Look.sentence("Promise 5: d becomes -a.");
        becomes("-0", 0, x -> x.negate(9, 0), 0);
        becomes("-(1)", -1, x -> x.negate(9, 0), 1);
        becomes("-(-1)", 1, x -> x.negate(9, 0), -1);
        becomes("-(-2^63)", Due.two(63), x -> x.negate(9, 0), Long.MIN_VALUE);
        Mill mill = Look.filled(x -> Look.values(x, 0));
        Look.same("-0 in place", mill.negate(0, 0) && mill.negate(1, 0), true);
        Look.same("-0 is 0", mill.compare(0, 1), 0);
        Look.greatest(mill, 2);
        Look.done("-(the greatest)", mill.negate(2, 2), mill, 2, LEAST);
        Look.done("-(the least)", mill.negate(2, 2), mill, 2, GREATEST);
    }

    private static void add() {
        Look.sentence("Promise 6: d becomes a + b.");
        becomes("5 + -5", 0, x -> x.add(9, 0, 1), 5, -5);
        becomes("-5 + 5", 0, x -> x.add(9, 0, 1), -5, 5);
        becomes("0 + 0", 0, x -> x.add(9, 0, 1), 0, 0);
        becomes("5 + -6", -1, x -> x.add(9, 0, 1), 5, -6);
        becomes("a carry out of a word", 0x100000000L, x -> x.add(9, 0, 1), 0xFFFFFFFFL, 1);
        becomes("a carry into the highest bit of a long", Due.two(63), x -> x.add(9, 0, 1), Long.MAX_VALUE, 1);
        becomes("a carry out of a long", Due.two(64).negate(), x -> x.add(9, 0, 0), Long.MIN_VALUE);
        Mill mill = Look.filled(x -> {
            Look.greatest(x, 0);
            Look.least(x, 1);
            Look.same("put", x.put(2, 1) & x.put(3, -1) & x.take(4, 0, 2) & x.add(5, 1, 2), true);
            Look.ones(x, 6, 65535);
            Look.shifted(x, 7, 1, 65535);
        });
        Look.done("the greatest + the least", mill.add(9, 0, 1), mill, 9, 0);
        Look.done("to the greatest", mill.add(9, 4, 2), mill, 9, GREATEST);
        Look.done("to the least", mill.add(9, 5, 3), mill, 9, LEAST);
        Look.done("halves to the greatest", mill.add(9, 6, 7), mill, 9, GREATEST);
        Look.done("a carry through all words", mill.add(9, 6, 2), mill, 9, Due.two(65535));
    }

    private static void take() {
        Look.sentence("Promise 7: d becomes a - b.");
        becomes("5 - 5", 0, x -> x.take(9, 0, 1), 5, 5);
        becomes("-5 - -5", 0, x -> x.take(9, 0, 1), -5, -5);
        becomes("0 - 5", -5, x -> x.take(9, 0, 1), 0, 5);
        becomes("5 - 6", -1, x -> x.take(9, 0, 1), 5, 6);
        becomes("a borrow from a word", 0xFFFFFFFFL, x -> x.take(9, 0, 1), 0x100000000L, 1);
        becomes("a number less itself", 0, x -> x.take(9, 0, 0), 5);
        Mill mill = Look.filled(x -> {
            Look.greatest(x, 0);
            Look.least(x, 1);
            Look.same("put", x.put(2, 1) & x.put(3, -1) & x.take(4, 0, 2) & x.add(5, 1, 2), true);
            Look.ones(x, 6, 65535);
            Look.shifted(x, 7, 1, 65535);
            Look.shifted(x, 8, -1, 65535);
        });
        Look.done("the greatest - itself", mill.take(9, 0, 0), mill, 9, 0);
        Look.done("to the greatest", mill.take(9, 4, 3), mill, 9, GREATEST);
        Look.done("to the least", mill.take(9, 5, 2), mill, 9, LEAST);
        Look.done("halves to the greatest", mill.take(9, 6, 8), mill, 9, GREATEST);
        Look.done("halves to the least", mill.take(9, 8, 6), mill, 9, LEAST);
        Look.done("a borrow through all words", mill.take(9, 7, 2), mill, 9, Due.two(65535).subtract(ONE));
    }

    private static void times() {
        Look.sentence("Promise 8: d becomes a * b.");
        becomes("0 * -5", 0, x -> x.times(9, 0, 1), 0, -5);
        becomes("-5 * 0", 0, x -> x.times(9, 0, 1), -5, 0);
        becomes("-5 * -6", 30, x -> x.times(9, 0, 1), -5, -6);
        becomes("5 * -6", -30, x -> x.times(9, 0, 1), 5, -6);
        becomes("-2^63 * -2^63", Due.two(126), x -> x.times(9, 0, 0), Long.MIN_VALUE);
        Mill mill = Look.filled(x -> {
            Look.ones(x, 0, 32768);
            Look.shifted(x, 1, 1, 32768);
            Look.shifted(x, 2, 1, 32767);
            Look.same("put", x.change(3, 1, 0, 1) & x.negate(4, 3) & x.put(5, 3) & x.put(6, -2), true);
            Look.greatest(x, 7);
            Look.same("a third", x.divide(7, 8, 7, 5, false), true);
            Look.shifted(x, 8, 1, 65534);
        });
        Look.done("(2^32768 - 1) * (2^32768 + 1)", mill.times(9, 0, 3), mill, 9, GREATEST);
        Look.done("(2^32768 - 1) * -(2^32768 + 1)", mill.times(9, 4, 0), mill, 9, LEAST);
        Look.done("2^32768 * 2^32767", mill.times(9, 1, 2), mill, 9, Due.two(65535));
        Look.done("2^32768 * (2^32768 - 1)", mill.times(9, 1, 0), mill, 9, Due.two(65536).subtract(Due.two(32768)));
        Look.done("a third of the greatest * 3", mill.times(9, 7, 5), mill, 9, GREATEST);
        Look.done("2^65534 * -2", mill.times(9, 8, 6), mill, 9, Due.two(65535).negate());
        // As many bits as the products above together, but 1 too long.
        Consumer<Mill> make = x -> {
            Look.ones(x, 0, 32768);
            Look.ones(x, 1, 32769);
            Look.shifted(x, 2, 1, 32768);
            Look.same("2^32768 + 1", x.change(3, 2, 0, 1), true);
        };
        Look.refused("(2^32769 - 1) * (2^32768 - 1)", make, x -> x.times(9, 1, 0));
        Look.refused("(2^32768 + 1) * 2^32768", make, x -> x.times(9, 3, 2));
    }

    private static void divides(boolean down, long a, long b, long quotient, long rest) {
        Mill mill = Look.filled(x -> Look.values(x, a, b));
        String what = a + " by " + b;
        Look.done(what, mill.divide(9, 10, 0, 1, down), mill, 9, quotient);
        Look.holds(what + ", rest", mill, 10, rest);
    }

    private static void divideCut() {
        Look.sentence("Promise 9: q becomes a / b cut towards 0");
        divides(false, 7, 2, 3, 1);
        divides(false, -7, 2, -3, -1);
        divides(false, 7, -2, -3, 1);
        divides(false, -7, -2, 3, -1);
        divides(false, -6, 2, -3, 0);
        divides(false, 1, 2, 0, 1);
        divides(false, -1, 2, 0, -1);
        divides(false, 1, -2, 0, 1);
        divides(false, 0, -2, 0, 0);
        divides(false, Long.MIN_VALUE, Long.MAX_VALUE, -1, -1);
        divides(false, Long.MAX_VALUE, Long.MIN_VALUE, 0, Long.MAX_VALUE);
        Mill mill = longDivision();
        longDivides("the least by 2", mill, mill.divide(9, 10, 1, 2, false), Due.two(65535).subtract(ONE).negate(), big(-1));
        longDivides("-1 by the greatest", mill, mill.divide(9, 10, 3, 0, false), ZERO, big(-1));
        longDivides("the greatest by the least", mill, mill.divide(9, 10, 0, 1, false), big(-1), ZERO);
        longDivides("the greatest less 1 by the greatest", mill, mill.divide(9, 10, 4, 0, false), ZERO, GREATEST.subtract(ONE));
    }

    private static Mill longDivision() {
        return Look.filled(x -> {
            Look.greatest(x, 0);
            Look.least(x, 1);
            Look.same("put", x.put(2, 2) & x.put(3, -1) & x.add(4, 0, 3) & x.put(5, 1), true);
        });
    }

    private static void longDivides(String what, Mill mill, boolean answer, BigInteger quotient, BigInteger rest) {
        Look.done(what, answer, mill, 9, quotient);
        Look.holds(what + ", rest", mill, 10, rest);
    }

    private static void divideDown() {
        Look.sentence("Promise 9: or, if down, the greatest whole number that is not above a / b");
        divides(true, 7, 2, 3, 1);
        divides(true, -7, 2, -4, 1);
        divides(true, 7, -2, -4, -1);
        divides(true, -7, -2, 3, -1);
        divides(true, -6, 2, -3, 0);
        divides(true, 6, -2, -3, 0);
        divides(true, 1, 2, 0, 1);
        divides(true, -1, 2, -1, 1);
        divides(true, 1, -2, -1, -1);
        divides(true, -1, -2, 0, -1);
        divides(true, 0, -2, 0, 0);
        divides(true, Long.MIN_VALUE, Long.MAX_VALUE, -2, Long.MAX_VALUE - 1);
        Mill mill = longDivision();
        longDivides("the least by 2", mill, mill.divide(9, 10, 1, 2, true), Due.two(65535).negate(), ONE);
        longDivides("-1 by the greatest", mill, mill.divide(9, 10, 3, 0, true), big(-1), GREATEST.subtract(ONE));
        longDivides("1 by the least", mill, mill.divide(9, 10, 5, 1, true), big(-1), LEAST.add(ONE));
        longDivides("the least by 1", mill, mill.divide(9, 10, 1, 5, true), LEAST, ZERO);
        longDivides("the greatest by -1", mill, mill.divide(9, 10, 0, 3, true), LEAST, ZERO);
    }

    private static void divideRest() {
        Look.sentence("Promise 9: r becomes a - q * b.");
        for (int signs = 0; signs < 8; signs++) {
            long a = (signs & 1) == 0 ? 1000003 : -1000003;
            long b = (signs & 2) == 0 ? 997 : -997;
            boolean down = (signs & 4) != 0;
            Mill mill = Look.filled(x -> Look.values(x, a, b));
            Look.same("divide", mill.divide(9, 10, 0, 1, down), true);
            Look.same("q * b + r", mill.times(11, 9, 1) && mill.add(11, 11, 10), true);
            Look.same("is a", mill.compare(11, 0), 0);
            Look.same("the rest's sign", mill.sign(10), down ? Long.signum(b) : Long.signum(a));
        }
    }

    private static void divideByZero() {
        Look.sentence("Promise 9: Refused, too, when b is 0.");
        for (long a : new long[] {0, 1, -1, Long.MIN_VALUE}) {
            Look.refused(a + " by 0", x -> Look.values(x, a, 0), x -> x.divide(9, 10, 0, 1, false));
            Look.refused(a + " by 0, down", x -> Look.values(x, a, 0), x -> x.divide(9, 10, 0, 1, true));
        }
        Look.refused("0 by itself", x -> Look.values(x, 0), x -> x.divide(0, 1, 0, 0, true));
        Look.refused("by what became 0", x -> Look.same("0", x.take(0, 0, 0), true), x -> x.divide(9, 10, 5, 0, false));
    }

    private static void logic() {
        Look.sentence("Promise 10: those that both a and b have (how = 0), that one of them has (1), that just one of them has (2), that a has and b has not (3).");
        long[][] rows = {{12, 10, 8, 14, 6, 4}, {-12, 10, 0, -2, -2, -12}, {12, -10, 4, -2, -6, 8}, {-12, -10, -12, -10, 2, 0}, {0, -1, 0, -1, -1, 0},
            {-1, 0, 0, -1, -1, -1}, {-1, -1, -1, -1, 0, 0}, {0, 0, 0, 0, 0, 0}, {-0x100000000L, 0xFFFFFFFFL, 0, -1, -1, -0x100000000L},
            {-0x100000000L, -1, -0x100000000L, -1, 0xFFFFFFFFL, 0}, {Long.MIN_VALUE, Long.MAX_VALUE, 0, -1, -1, Long.MIN_VALUE}};
        for (long[] row : rows) {
            for (int i = 0; i < 4; i++) {
                int how = i;
                becomes(row[0] + " and " + row[1] + ", how " + how, row[2 + how], x -> x.logic(9, 0, 1, how), row[0], row[1]);
            }
        }
        Mill mill = longDivision();
        Look.done("both of the greatest and -1", mill.logic(9, 0, 3, 0), mill, 9, GREATEST);
        Look.done("one of the greatest and the least", mill.logic(9, 0, 1, 1), mill, 9, -1);
        Look.done("just one of the greatest and the least", mill.logic(9, 0, 1, 2), mill, 9, -2);
        Look.done("the greatest without the least", mill.logic(9, 0, 1, 3), mill, 9, GREATEST.subtract(ONE));
        Look.done("both of the least and 1", mill.logic(9, 1, 5, 0), mill, 9, 1);
        Look.done("both of the least", mill.logic(9, 1, 1, 0), mill, 9, LEAST);
    }

    private static void logicRefused() {
        Look.sentence("Promise 10: Refused, too, for another how.");
        for (int how : new int[] {-1, 4, 5, 7, -4, 256, MIN, MAX}) {
            Look.refused("how " + how, x -> { }, x -> x.logic(9, 0, 1, how));
        }
    }

    private static void shift() {
        Look.sentence("Promise 11: d becomes the greatest whole number that is not above a * 2^n");
        for (int n : new int[] {0, 1, 31, 32, 33, 63, 64, 65, 65471, 65472}) {
            for (long a : new long[] {1, -1, 0x123456789L, -0x123456789L, Long.MAX_VALUE, -Long.MAX_VALUE, Long.MIN_VALUE}) {
                becomes(a + " by " + n, big(a).shiftLeft(n), x -> x.shift(9, 0, n), a);
            }
        }
        becomes("1 by 65535", Due.two(65535), x -> x.shift(9, 0, 65535), 1);
        becomes("-1 by 65535", Due.two(65535).negate(), x -> x.shift(9, 0, 65535), -1);
        becomes("-3 by 65534", Due.two(65534).multiply(big(-3)), x -> x.shift(9, 0, 65534), -3);
        Look.refused("-3 by 65535", x -> Look.values(x, -3), x -> x.shift(9, 0, 65535));
    }

    private static void shiftDown() {
        Look.sentence("Promise 11: n may be below 0");
        becomes("5 by -1", 2, x -> x.shift(9, 0, -1), 5);
        becomes("5 by -2", 1, x -> x.shift(9, 0, -2), 5);
        becomes("5 by -3", 0, x -> x.shift(9, 0, -3), 5);
        becomes("-5 by -1", -3, x -> x.shift(9, 0, -1), -5);
        becomes("-5 by -3", -1, x -> x.shift(9, 0, -3), -5);
        becomes("-8 by -3", -1, x -> x.shift(9, 0, -3), -8);
        becomes("-8 by -2", -2, x -> x.shift(9, 0, -2), -8);
        becomes("-9 by -3", -2, x -> x.shift(9, 0, -3), -9);
        becomes("-2^32 - 1 by -32", -2, x -> x.shift(9, 0, -32), -0x100000001L);
        becomes("-2^32 by -32", -1, x -> x.shift(9, 0, -32), -0x100000000L);
        becomes("-2^63 by -63", -1, x -> x.shift(9, 0, -63), Long.MIN_VALUE);
        for (int n : new int[] {-64, -65535, -65536, -65537, MIN + 1, MIN}) {
            becomes("5 by " + n, 0, x -> x.shift(9, 0, n), 5);
            becomes("-5 by " + n, -1, x -> x.shift(9, 0, n), -5);
        }
        Mill mill = longDivision();
        Look.done("the greatest by -65535", mill.shift(9, 0, -65535), mill, 9, 1);
        Look.done("the greatest by -65536", mill.shift(9, 0, -65536), mill, 9, 0);
        Look.done("the greatest by the least n", mill.shift(9, 0, MIN), mill, 9, 0);
        Look.done("the least by -1", mill.shift(9, 1, -1), mill, 9, Due.two(65535).negate());
        Look.done("the least by -65535", mill.shift(9, 1, -65535), mill, 9, -2);
        Look.done("the least by -65536", mill.shift(9, 1, -65536), mill, 9, -1);
        Look.done("the least by the least n", mill.shift(9, 1, MIN), mill, 9, -1);
    }

    private static void shiftZero() {
        Look.sentence("Promise 11: 0 stays 0 for each n");
        for (int n : new int[] {0, 1, -1, 65535, 65536, 65537, -65536, -65537, 1 << 20, MAX, MAX - 1, MIN, MIN + 1}) {
            becomes("0 by " + n, 0, x -> x.shift(9, 0, n), 0);
        }
    }

    private static void change() {
        Look.sentence("Promise 12: d becomes a with bit k 0 (how = 0), 1 (1) or turned over (2).");
        for (long a : new long[] {0, 1, -1, 6, -6, -0x100000000L, 0xFFFFFFFFL, Long.MIN_VALUE, Long.MAX_VALUE}) {
            for (int k : new int[] {0, 1, 31, 32, 62, 63, 64, 127, 65534, 65535}) {
                becomes(a + ", bit " + k + " 0", big(a).clearBit(k), x -> x.change(9, 0, k, 0), a);
                becomes(a + ", bit " + k + " 1", big(a).setBit(k), x -> x.change(9, 0, k, 1), a);
                becomes(a + ", bit " + k + " over", big(a).flipBit(k), x -> x.change(9, 0, k, 2), a);
            }
        }
        Mill mill = longDivision();
        Look.done("the greatest's bit 65535 over", mill.change(9, 0, 65535, 2), mill, 9, Due.two(65535).subtract(ONE));
        Look.done("the least's bit 65535 over", mill.change(9, 1, 65535, 2), mill, 9, LEAST.add(Due.two(65535)));
        Look.done("the least's bit 1 to 1", mill.change(9, 1, 1, 1), mill, 9, LEAST.add(big(2)));
    }

    private static void changeBelow() {
        Look.sentence("Promise 12: Refused, too, when k is below 0");
        for (int k : new int[] {-1, -2, -31, -32, -33, -65536, MIN, MIN + 1}) {
            for (int i = 0; i < 3; i++) {
                int how = i;
                Look.refused("bit " + k + " how " + how, x -> { }, x -> x.change(9, 0, k, how));
                Look.refused("bit " + k + " of one below 0, how " + how, x -> Look.values(x, -5), x -> x.change(9, 0, k, how));
            }
        }
    }

    private static void changeHow() {
        Look.sentence("Promise 12: or for another how");
        for (int how : new int[] {-1, 3, 4, -3, 256, MIN, MAX}) {
            Look.refused("how " + how, x -> { }, x -> x.change(9, 0, 1, how));
            Look.refused("how " + how + " far above", x -> { }, x -> x.change(9, 0, MAX, how));
        }
    }

    private static void changeFar() {
        Look.sentence("Promise 12: (a bit that is so already, however far, is done)");
        for (int k : new int[] {65535, 65536, 65537, 65567, 65568, 200000, 1 << 30, MAX - 1, MAX}) {
            becomes("5, bit " + k + " 0", 5, x -> x.change(9, 0, k, 0), 5);
            becomes("0, bit " + k + " 0", 0, x -> x.change(9, 0, k, 0), 0);
            becomes("-5, bit " + k + " 1", -5, x -> x.change(9, 0, k, 1), -5);
            if (k > 65535) {
                Look.refused("5, bit " + k + " 1", x -> Look.values(x, 5), x -> x.change(9, 0, k, 1));
                Look.refused("5, bit " + k + " over", x -> Look.values(x, 5), x -> x.change(9, 0, k, 2));
                Look.refused("-5, bit " + k + " 0", x -> Look.values(x, -5), x -> x.change(9, 0, k, 0));
                Look.refused("-5, bit " + k + " over", x -> Look.values(x, -5), x -> x.change(9, 0, k, 2));
            }
            Mill mill = longDivision();
            Look.done("the least, bit " + k + " alike", mill.change(9, 1, k, k > 65535 ? 1 : 0), mill, 9, LEAST);
            Look.done("the greatest, bit " + k + " alike", mill.change(9, 0, k, k > 65535 ? 0 : 1), mill, 9, GREATEST);
        }
    }

    private static void power() {
        Look.sentence("Promise 13: d becomes the product of 1 and n factors a.");
        for (long a : new long[] {0, 1, -1, 2, -2, 10, Long.MIN_VALUE}) {
            becomes(a + " to 0", 1, x -> x.power(9, 0, 0), a);
            becomes(a + " to 1", a, x -> x.power(9, 0, 1), a);
            becomes(a + " to 2", big(a).pow(2), x -> x.power(9, 0, 2), a);
            becomes(a + " to 3", big(a).pow(3), x -> x.power(9, 0, 3), a);
        }
        Mill mill = longDivision();
        Look.done("the greatest to 0", mill.power(9, 0, 0), mill, 9, 1);
        Look.done("the least to 0", mill.power(9, 1, 0), mill, 9, 1);
        Look.done("the least to 1", mill.power(9, 1, 1), mill, 9, LEAST);
        Look.ones(mill, 6, 32768);
        Look.done("2^32768 - 1 to 2", mill.power(9, 6, 2), mill, 9, Due.two(65536).subtract(Due.two(32769)).add(ONE));
    }

    private static void powerOfShort() {
        Look.sentence("Promise 13: the product of 1 and n factors a, for each n");
        for (int n : new int[] {65535, 65536, 65537, MAX - 1, MAX}) {
            becomes("0 to " + n, 0, x -> x.power(9, 0, n), 0);
            becomes("1 to " + n, 1, x -> x.power(9, 0, n), 1);
            becomes("-1 to " + n, n % 2 == 0 ? 1 : -1, x -> x.power(9, 0, n), -1);
        }
    }

    private static void powerRefused() {
        Look.sentence("Promise 13: Refused, too, when n is below 0.");
        for (int n : new int[] {-1, -2, MIN, MIN + 1}) {
            for (long a : new long[] {0, 1, -1, 7}) {
                Look.refused(a + " to " + n, x -> Look.values(x, a), x -> x.power(9, 0, n));
            }
        }
    }

    private static void common() {
        Look.sentence("Promise 14: d becomes the greatest number that divides both a and b without rest");
        long[][] rows = {{12, 18, 6}, {-12, 18, 6}, {12, -18, 6}, {-12, -18, 6}, {7, 7, 7}, {-7, -7, 7}, {1, 99, 1}, {-1, 99, 1}, {17, 19, 1},
            {0, 5, 5}, {5, 0, 5}, {0, -5, 5}, {-5, 0, 5}, {0, 1, 1}, {99, 33, 33}};
        for (long[] row : rows) {
            becomes(row[0] + ", " + row[1], row[2], x -> x.common(9, 0, 1), row[0], row[1]);
        }
        becomes("-2^63 twice", Due.two(63), x -> x.common(9, 0, 0), Long.MIN_VALUE);
        Mill mill = longDivision();
        Look.done("the greatest, the least", mill.common(9, 0, 1), mill, 9, GREATEST);
        Look.done("the greatest, 1 less", mill.common(9, 0, 4), mill, 9, 1);
        Look.ones(mill, 6, 32768);
        Look.done("the least, 2^32768 - 1", mill.common(9, 1, 6), mill, 9, Due.two(32768).subtract(ONE));
        Look.ones(mill, 6, 65535);
        Look.done("the greatest, 2^65535 - 1", mill.common(9, 6, 0), mill, 9, 1);
        Look.shifted(mill, 6, -1, 65535);
        Look.shifted(mill, 7, 3, 65534);
        Look.done("-2^65535, 3 * 2^65534", mill.common(9, 6, 7), mill, 9, Due.two(65534));
    }

    private static void commonZero() {
        Look.sentence("Promise 14: 0 if both are 0.");
        becomes("0, 0", 0, x -> x.common(9, 0, 1), 0, 0);
        becomes("0 twice", 0, x -> x.common(9, 0, 0), 0);
    }

    private static void inverse() {
        Look.sentence("Promise 15: d becomes the x from 0 to m - 1 for which x * a - 1 is a multiple of m");
        long[][] rows = {{3, 7, 5}, {-3, 7, 2}, {10, 7, 5}, {-10, 7, 2}, {1, 7, 1}, {-1, 7, 6}, {8, 7, 1}, {6, 7, 6}, {1, 2, 1}, {-1, 2, 1},
            {Long.MAX_VALUE, 2, 1}, {5, 12, 5}, {-7, 12, 5}, {3, 0x100000000L, 0xAAAAAAABL}};
        for (long[] row : rows) {
            becomes(row[0] + " by " + row[1], row[2], x -> x.inverse(9, 0, 1), row[0], row[1]);
        }
        Mill mill = longDivision();
        Look.done("2 by the greatest", mill.inverse(9, 2, 0), mill, 9, Due.two(65535));
        Look.done("-1 by the greatest", mill.inverse(9, 3, 0), mill, 9, GREATEST.subtract(ONE));
        Look.done("1 by the greatest", mill.inverse(9, 5, 0), mill, 9, 1);
        Look.done("the greatest by 2", mill.inverse(9, 0, 2), mill, 9, 1);
        Look.done("the least by 1 less than the greatest", mill.inverse(9, 1, 4), mill, 9, GREATEST.subtract(big(2)));
    }

    private static void inverseByOne() {
        Look.sentence("Promise 15: (0 for m 1)");
        for (long a : new long[] {0, 1, -1, 7, -7, Long.MIN_VALUE}) {
            becomes(a + " by 1", 0, x -> x.inverse(9, 0, 1), a, 1);
        }
        becomes("1 by itself", 0, x -> x.inverse(9, 0, 0), 1);
        Mill mill = longDivision();
        Look.done("the least by 1", mill.inverse(9, 1, 5), mill, 9, 0);
    }

    private static void inverseByBelowOne() {
        Look.sentence("Promise 15: Refused, too, when m is below 1");
        for (long m : new long[] {0, -1, -2, -7, Long.MIN_VALUE}) {
            for (long a : new long[] {0, 1, -1, 3}) {
                Look.refused(a + " by " + m, x -> Look.values(x, a, m), x -> x.inverse(9, 0, 1));
            }
        }
        Look.refused("by the least", x -> Look.least(x, 1), x -> x.inverse(9, 0, 1));
    }

    private static void inverseNone() {
        Look.sentence("Promise 15: or there is none.");
        long[][] rows = {{0, 7}, {0, 2}, {7, 7}, {14, 7}, {-7, 7}, {6, 9}, {-6, 9}, {2, 4}, {3, 9}, {Long.MIN_VALUE, 2}};
        for (long[] row : rows) {
            Look.refused(row[0] + " by " + row[1], x -> Look.values(x, row), x -> x.inverse(9, 0, 1));
        }
        Look.refused("7 by itself", x -> Look.values(x, 7), x -> x.inverse(0, 0, 0));
        Look.refused("3 by the greatest", x -> Look.greatest(x, 0), x -> x.inverse(9, 1, 0));
        Look.refused("the greatest by itself", x -> Look.greatest(x, 0), x -> x.inverse(9, 0, 0));
    }

    private static void modulo() {
        Look.sentence("Promise 16: d becomes the number from 0 to m - 1 that differs by a multiple of m from the product of 1 and e factors a");
        long[][] rows = {{3, 5, 7, 5}, {-3, 5, 7, 2}, {-3, 4, 7, 4}, {10, 5, 7, 5}, {0, 5, 7, 0}, {7, 5, 7, 0}, {-7, 1, 7, 0}, {6, 1, 7, 6},
            {-1, 1, 7, 6}, {-1, 2, 7, 1}, {6, 2, 9, 0}, {6, 5, 8, 0}, {5, 1, 2, 1}, {4, 1, 2, 0}, {2, 62, Long.MAX_VALUE, 1L << 62}, {2, 63, Long.MAX_VALUE, 1}};
        for (long[] row : rows) {
            becomes(row[0] + " to " + row[1] + " by " + row[2], row[3], x -> x.modulo(9, 0, 1, 2), row[0], row[1], row[2]);
        }
    }

    private static void moduloNoFactors() {
        Look.sentence("Promise 16: the product of 1 and e factors a, with e 0");
        for (long a : new long[] {0, 1, -1, 7, 14, -9}) {
            becomes(a + " to 0 by 7", 1, x -> x.modulo(9, 0, 1, 2), a, 0, 7);
            becomes(a + " to 0 by 2", 1, x -> x.modulo(9, 0, 1, 2), a, 0, 2);
        }
    }

    private static void moduloBelow() {
        Look.sentence("Promise 16: if e is below 0, from that of -e factors that are a's inverse.");
        long[][] rows = {{3, -1, 7, 5}, {3, -2, 7, 4}, {3, -5, 7, 3}, {-3, -5, 7, 4}, {10, -2, 7, 4}, {1, Long.MIN_VALUE, 7, 1}, {-1, -3, 7, 6},
            {-1, -4, 7, 1}, {5, -3, 2, 1}, {6, -1, 7, 6}};
        for (long[] row : rows) {
            becomes(row[0] + " to " + row[1] + " by " + row[2], row[3], x -> x.modulo(9, 0, 1, 2), row[0], row[1], row[2]);
        }
    }

    private static void moduloByOne() {
        Look.sentence("Promise 16: (With m 1 it is 0, an inverse is there.)");
        for (long a : new long[] {0, 1, -1, 7}) {
            for (long e : new long[] {0, 1, 2, -1, -2, Long.MIN_VALUE, Long.MAX_VALUE}) {
                becomes(a + " to " + e + " by 1", 0, x -> x.modulo(9, 0, 1, 2), a, e, 1);
            }
        }
        Mill mill = longDivision();
        Look.done("to the least by 1", mill.modulo(9, 2, 1, 5), mill, 9, 0);
        Look.done("to the greatest by 1", mill.modulo(9, 2, 0, 5), mill, 9, 0);
    }

    private static void moduloByBelowOne() {
        Look.sentence("Promise 16: Refused, too, when m is below 1");
        for (long m : new long[] {0, -1, -7, Long.MIN_VALUE}) {
            for (long e : new long[] {0, 1, -1, 5}) {
                Look.refused("3 to " + e + " by " + m, x -> Look.values(x, 3, e, m), x -> x.modulo(9, 0, 1, 2));
            }
        }
        Look.refused("by the least", x -> Look.least(x, 2), x -> x.modulo(9, 0, 1, 2));
        Look.refused("0 by itself", x -> Look.values(x, 0), x -> x.modulo(0, 0, 0, 0));
    }

    private static void moduloNoInverse() {
        Look.sentence("Promise 16: or e is below 0 and there is no inverse");
        long[][] rows = {{0, -1, 7}, {7, -1, 7}, {6, -1, 9}, {6, -2, 9}, {-6, -5, 9}, {2, -1, 4}, {0, -1, 2}, {14, Long.MIN_VALUE, 7}};
        for (long[] row : rows) {
            Look.refused(row[0] + " to " + row[1] + " by " + row[2], x -> Look.values(x, row), x -> x.modulo(9, 0, 1, 2));
        }
        becomes("6 to 0 by 9", 1, x -> x.modulo(9, 0, 1, 2), 6, 0, 9);
        becomes("6 to 1 by 9", 6, x -> x.modulo(9, 0, 1, 2), 6, 1, 9);
    }

    private static Consumer<Mill> workOf(int exponentBits, int modulusBits) {
        return x -> {
            Look.same("put", x.put(0, 2), true);
            Look.ones(x, 1, exponentBits);
            Look.ones(x, 2, modulusBits);
        };
    }

    /** 2 to a power by 2^n - 1 is a power of 2 again, with a remainder of n. */
    private static void works(int exponentBits, int modulusBits) {
        Mill mill = Look.filled(workOf(exponentBits, modulusBits));
        int place = Due.two(exponentBits).subtract(ONE).mod(big(modulusBits)).intValue();
        String what = exponentBits + " bits by " + modulusBits;
        Look.done(what, mill.modulo(9, 0, 1, 2), mill, 9, Due.two(place));
        Look.same("negate", mill.negate(1, 1), true);
        int other = (modulusBits - place) % modulusBits;
        Look.done(what + ", below 0", mill.modulo(9, 0, 1, 2), mill, 9, Due.two(other));
    }

    private static void worksNot(int exponentBits, int modulusBits) {
        String what = exponentBits + " bits by " + modulusBits;
        Consumer<Mill> make = workOf(exponentBits, modulusBits);
        Look.refused(what, make, x -> x.modulo(9, 0, 1, 2));
        Look.refused(what + ", below 0", make.andThen(x -> Look.same("negate", x.negate(1, 1), true)), x -> x.modulo(9, 0, 1, 2));
        Look.refused(what + ", of 0", make.andThen(x -> Look.values(x, 0)), x -> x.modulo(9, 0, 1, 2));
    }

    private static void moduloWork() {
        Look.sentence("Promise 16: or the bits that e without its sign has, times those of m, times those of m, are more than 2^32.");
        works(65536, 256);
        works(16384, 512);
        works(16, 16384);
        works(4, 32768);
        works(1, 65536);
        works(2, 46340);
        works(3, 37837);
        worksNot(65536, 257);
        worksNot(16385, 512);
        worksNot(16384, 513);
        worksNot(17, 16384);
        worksNot(16, 16385);
        worksNot(5, 32768);
        worksNot(2, 46341);
        worksNot(3, 37838);
        worksNot(2, 65536);
        worksNot(65536, 65536);
    }

    private static void moduloWorkOfSize() {
        Look.sentence("Promise 16: the bits that e without its sign has (those of its size)");
        Consumer<Mill> make = x -> {
            Look.values(x, 2, -0x8000, -0x10000, 0x8000, 0x10000);
            Look.ones(x, 5, 16384);
            Look.shifted(x, 6, 1, 16383);
            Look.shifted(x, 7, 1, 16384);
            Look.same("put", x.put(8, 3), true);
        };
        Mill mill = Look.filled(make);
        // 2^15 is 2 * 16384 factors.
        Look.done("-2^15 has 16 bits", mill.modulo(9, 0, 1, 5), mill, 9, 1);
        Look.done("2^15 has 16 bits", mill.modulo(9, 0, 3, 5), mill, 9, 1);
        Look.done("2^16383 has 16384 bits", mill.modulo(9, 8, 3, 6), mill, 9, big(3).modPow(big(0x8000), Due.two(16383)));
        Look.refused("-2^16 has 17 bits", make, x -> x.modulo(9, 0, 2, 5));
        Look.refused("2^16 has 17 bits", make, x -> x.modulo(9, 0, 4, 5));
        Look.refused("2^16384 has 16385 bits", make, x -> x.modulo(9, 8, 3, 7));
        Consumer<Mill> two = x -> {
            Look.values(x, 7, -2, -1, 2, 1);
            Look.greatest(x, 5);
        };
        Look.refused("-2 has 2 bits", two, x -> x.modulo(9, 0, 1, 5));
        Look.refused("2 has 2 bits", two, x -> x.modulo(9, 0, 3, 5));
        Mill one = Look.filled(two);
        Look.done("1 has 1 bit", one.modulo(9, 0, 4, 5), one, 9, 7);
        Look.done("-1 has 1 bit", one.modulo(9, 0, 2, 5), one, 9, big(7).modInverse(GREATEST));
    }

    private static void moduloWorkOfZero() {
        Look.sentence("Promise 16: of 0 none");
        Mill mill = Look.filled(x -> {
            Look.values(x, 7, 0);
            Look.greatest(x, 2);
            Look.least(x, 3);
        });
        Look.done("7 to 0 by the greatest", mill.modulo(9, 0, 1, 2), mill, 9, 1);
        Look.done("the least to 0 by the greatest", mill.modulo(9, 3, 1, 2), mill, 9, 1);
        Look.done("0 to 0 by the greatest", mill.modulo(9, 1, 1, 2), mill, 9, 1);
    }

    private static void compare() {
        Look.sentence("Promise 17: -1, 0 or 1 when a is below, equal to or above b");
        Mill mill = Look.filled(x -> {
            Look.least(x, 0);
            Look.shifted(x, 1, -1, 65535);
            Look.same("rising", x.put(2, Long.MIN_VALUE) & x.put(3, -0x100000001L) & x.put(4, -0x100000000L) & x.put(5, -2) & x.put(6, -1) & x.put(7, 0), true);
            Look.same("rising", x.put(8, 1) & x.put(9, 2) & x.put(10, 0xFFFFFFFFL) & x.put(11, 0x100000000L) & x.put(12, Long.MAX_VALUE), true);
            Look.shifted(x, 13, 1, 65535);
            Look.greatest(x, 14);
            Look.greatest(x, 15);
            Look.same("1 less", x.change(14, 15, 0, 0), true);
        });
        for (int a = 0; a < 16; a++) {
            for (int b = 0; b < 16; b++) {
                Look.same("compare " + a + ", " + b, mill.compare(a, b), Integer.compare(a, b));
            }
        }
    }

    private static void compareNone() {
        Look.sentence("Promise 17: -2 when one of them is no register.");
        Mill mill = Look.filled();
        for (int none : Look.NONE) {
            Look.same(none + " first", mill.compare(none, 0), -2);
            Look.same(none + " second", mill.compare(15, none), -2);
            Look.same(none + " twice", mill.compare(none, none), -2);
        }
    }

    private static void sign() {
        Look.sentence("Promise 18: -1, 0 or 1 when r is below, equal to or above 0");
        Mill mill = Look.filled(x -> {
            Look.values(x, 0, 1, -1, Long.MIN_VALUE, Long.MAX_VALUE, 0, 0);
            Look.greatest(x, 5);
            Look.least(x, 6);
        });
        int[] signs = {0, 1, -1, -1, 1, 1, -1};
        for (int r = 0; r < signs.length; r++) {
            Look.same("register " + r, mill.sign(r), signs[r]);
        }
        Look.same("0 by several ways", mill.negate(7, 0) & mill.times(8, 0, 6) & mill.add(9, 5, 6) & mill.logic(10, 6, 6, 2) & mill.push(0, 0), true);
        Look.same("0 by more ways", mill.divide(11, 12, 2, 3, false) & mill.divide(13, 14, 6, 2, true) & mill.change(15, 1, 0, 0), true);
        for (int r : new int[] {0, 7, 8, 9, 10, 11, 14, 15}) {
            Look.same("0 in register " + r, mill.sign(r), 0);
        }
    }

    private static void signNone() {
        Look.sentence("Promise 18: -2 when it is no register.");
        for (int none : Look.NONE) {
            Look.same("" + none, Look.filled().sign(none), -2);
        }
    }

    /** The number v * 2^n in a register, as this reading answers it. */
    private static Mill shifted(long v, int n) {
        Mill mill = new Mill();
        Look.shifted(mill, 0, v, n);
        return mill;
    }

    private static void length() {
        Look.sentence("Promise 19: How many bits r has below the lowest place from which on all are alike");
        long[][] rows = {{0, 0}, {-1, 0}, {1, 1}, {-2, 1}, {2, 2}, {3, 2}, {-3, 2}, {-4, 2}, {-5, 3}, {Long.MAX_VALUE, 63}, {Long.MIN_VALUE, 63}};
        for (long[] row : rows) {
            Look.same("" + row[0], shifted(row[0], 0).length(0), (int) row[1]);
        }
        for (int n : new int[] {31, 32, 33, 63, 64, 65534, 65535}) {
            Look.same("2^" + n, shifted(1, n).length(0), n + 1);
            Look.same("-2^" + n, shifted(-1, n).length(0), n);
        }
        Mill mill = longDivision();
        Look.same("the greatest", mill.length(0), 65536);
        Look.same("the least", mill.length(1), 65536);
    }

    private static void lengthNone() {
        Look.sentence("Promise 19: -1 when r is no register.");
        for (int none : Look.NONE) {
            Look.same("" + none, Look.filled().length(none), -1);
        }
    }

    private static void ones() {
        Look.sentence("Promise 20: How many bits of r are other than those far above");
        long[][] rows = {{0, 0}, {-1, 0}, {1, 1}, {-2, 1}, {7, 3}, {-8, 3}, {-7, 2}, {-6, 2}, {Long.MAX_VALUE, 63}, {Long.MIN_VALUE, 63}, {0xFFFFFFFFL, 32}};
        for (long[] row : rows) {
            Look.same("" + row[0], shifted(row[0], 0).ones(0), (int) row[1]);
        }
        for (int n : new int[] {31, 32, 33, 63, 64, 65534, 65535}) {
            Look.same("2^" + n, shifted(1, n).ones(0), 1);
            Look.same("-2^" + n, shifted(-1, n).ones(0), n);
        }
        Mill mill = longDivision();
        Look.same("the greatest", mill.ones(0), 65536);
        Look.same("the least", mill.ones(1), 65535);
    }

    private static void onesNone() {
        Look.sentence("Promise 20: -1 when r is no register.");
        for (int none : Look.NONE) {
            Look.same("" + none, Look.filled().ones(none), -1);
        }
    }

    private static void lowest() {
        Look.sentence("Promise 21: The number of the lowest bit of r that is 1");
        for (int n : new int[] {0, 1, 31, 32, 33, 63, 64, 65533}) {
            for (long v : new long[] {1, -1, 3, -3, 5, -5}) {
                Look.same(v + " * 2^" + n, shifted(v, n).lowest(0), n);
            }
        }
        Look.same("2^65535", shifted(1, 65535).lowest(0), 65535);
        Look.same("-2^65535", shifted(-1, 65535).lowest(0), 65535);
        Mill mill = longDivision();
        Look.same("the greatest", mill.lowest(0), 0);
        Look.same("the least", mill.lowest(1), 0);
        Look.same("1 less", mill.lowest(4), 1);
    }

    private static void lowestNone() {
        Look.sentence("Promise 21: -1 when there is none, or r is no register.");
        Look.same("a new object's", new Mill().lowest(0), -1);
        Mill mill = longDivision();
        Look.same("the greatest + the least", mill.add(0, 0, 1), true);
        Look.same("there is none", mill.lowest(0), -1);
        for (int none : Look.NONE) {
            Look.same("" + none, mill.lowest(none), -1);
        }
    }

    private static void word() {
        Look.sentence("Promise 22: WORD k of r, as an int");
        Mill mill = Look.filled(x -> Look.values(x, 0x1FFFFFFFFL, -0x1FFFFFFFFL, -1, 0));
        long[][] rows = {{0, 0, -1}, {0, 1, 1}, {0, 2, 0}, {0, MAX, 0}, {1, 0, 1}, {1, 1, -2}, {1, 2, -1}, {1, MAX, -1}, {2, 0, -1}, {2, MAX, -1},
            {3, 0, 0}, {3, MAX, 0}};
        for (long[] row : rows) {
            Look.same("word " + row[1] + " of " + row[0], mill.word((int) row[0], (int) row[1]), (int) row[2]);
        }
    }

    private static void wordNone() {
        Look.sentence("Promise 22: 0 when r is no register or k is below 0.");
        Mill mill = Look.filled(x -> Look.values(x, -1));
        for (int none : Look.NONE) {
            Look.same("register " + none, mill.word(none, 0), 0);
            Look.same("register " + none + " far above", mill.word(none, MAX), 0);
        }
        for (int k : new int[] {-1, -2, -32, MIN, MIN + 1}) {
            Look.same("word " + k + " of 2", mill.word(1, k), 0);
            Look.same("word " + k + " of -1", mill.word(0, k), 0);
        }
    }
}
