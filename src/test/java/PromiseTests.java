import java.math.BigInteger;
import java.util.function.Predicate;

/** Each promise by itself: ordinary inputs, the edges that the document names, and wrong inputs. */
public final class PromiseTests {
    private static final int[] NO_REGISTERS = {-1, 16, 17, 32, -16, Integer.MIN_VALUE, Integer.MAX_VALUE};
    private static final BigInteger ONE = BigInteger.ONE;
    private static final BigInteger ZERO = BigInteger.ZERO;
    private static final BigInteger GREATEST = Due.GREATEST;

    /** A call with one register named; the others that it needs are 0, 1, .. */
    private interface Named {
        boolean call(Mill mill, int r);
    }

    public static void main(String[] args) {
        newObject();
        put();
        push();
        spread();
        negate();
        add();
        take();
        times();
        divide();
        divideRefused();
        logic();
        logicAtTheLimit();
        shift();
        change();
        changeFarAbove();
        power();
        common();
        inverse();
        modulo();
        moduloWork();
        compare();
        sign();
        length();
        ones();
        lowest();
        word();
        readme();
        Due.end("PromiseTests");
    }

    private static BigInteger big(long v) {
        return BigInteger.valueOf(v);
    }

    private static void holds(String what, Mill mill, int r, BigInteger want) {
        Due.same(what, Due.read(mill, r), want);
        Due.same(what + ", sign", mill.sign(r), want.signum());
    }

    private static void done(String what, boolean answer, Mill mill, int r, BigInteger want) {
        Due.same(what, answer, true);
        holds(what, mill, r, want);
    }

    private static void done(String what, boolean answer, Mill mill, int r, long want) {
        done(what, answer, mill, r, big(want));
    }

    private static BigInteger[] readAll(Mill mill) {
        BigInteger[] all = new BigInteger[16];
        for (int r = 0; r < 16; r++) {
            all[r] = Due.read(mill, r);
        }
        return all;
    }

    private static void refused(String what, Mill mill, Predicate<Mill> call) {
        BigInteger[] before = readAll(mill);
        Due.same(what, call.test(mill), false);
        BigInteger[] after = readAll(mill);
        for (int r = 0; r < 16; r++) {
            Due.same(what + " leaves register " + r, after[r], before[r]);
        }
    }

    private static void refusedWithoutRegister(String what, Named call) {
        Mill mill = Due.with(5, 3, 7, 9, 11);
        for (int r : NO_REGISTERS) {
            refused(what + " with register " + r, mill, x -> call.call(x, r));
        }
        Due.same(what + " with register 15", call.call(Due.with(5, 3, 7, 9, 11, 1, 1, 1, 1, 1, 1, 1, 1, 1, 1, 1), 15), true);
    }

    private static void newObject() {
        Mill mill = new Mill();
        for (int r = 0; r < 16; r++) {
            holds("a new object's register " + r, mill, r, ZERO);
            Due.same("length of a new register", mill.length(r), 0);
        }
        Due.same("put into one object", mill.put(3, 5), true);
        holds("another new object", new Mill(), 3, ZERO);
    }

    private static void put() {
        long[] values = {0, 1, -1, 5, -5, 0xFFFFFFFFL, -0xFFFFFFFFL, 0x100000000L, -0x100000000L, Long.MAX_VALUE, Long.MIN_VALUE, Long.MIN_VALUE + 1};
        Mill mill = new Mill();
        for (long v : values) {
            for (int r = 0; r < 16; r += 5) {
                done("put " + v, mill.put(r, v), mill, r, v);
            }
        }
        done("spread before put", mill.spread(0, -1, 1024), mill, 0, GREATEST);
        done("put over a long number", mill.put(0, -7), mill, 0, -7);
        done("put 0 over one below 0", mill.put(0, 0), mill, 0, 0);
        refusedWithoutRegister("put", (x, r) -> x.put(r, 1));
    }

    private static void push() {
        BigInteger two64 = Due.two(64);
        Mill mill = Due.with(0, 3, -3);
        done("push on 0", mill.push(0, -1), mill, 0, two64.subtract(ONE));
        done("push 0 on 0", mill.push(3, 0), mill, 3, 0);
        done("push on 3", mill.push(1, Long.MIN_VALUE), mill, 1, two64.multiply(big(3)).add(Due.two(63)));
        done("push on -3", mill.push(2, 9), mill, 2, two64.multiply(big(3)).add(big(9)).negate());
        BigInteger most = Due.two(65472).subtract(ONE);
        mill = Due.with(most, most.negate(), Due.two(65472), Due.two(65472).negate());
        refused("push on 2^65472", mill, x -> x.push(2, 0));
        refused("push on -2^65472", mill, x -> x.push(3, 0));
        done("push to the limit", mill.push(0, -1), mill, 0, GREATEST);
        done("push to the limit below 0", mill.push(1, -1), mill, 1, GREATEST.negate());
        refused("push past the limit", mill, x -> x.push(0, 0));
        refusedWithoutRegister("push", (x, r) -> x.push(r, 1));
    }

    private static void spread() {
        Mill mill = Due.with(-9, -9, -9, -9);
        done("spread once", mill.spread(0, Long.MIN_VALUE, 1), mill, 0, Due.two(63));
        done("spread not at all", mill.spread(1, 77, 0), mill, 1, 0);
        done("spread thrice", mill.spread(2, 5, 3), mill, 2, Due.two(128).add(Due.two(64)).add(ONE).multiply(big(5)));
        done("spread 1024 times", mill.spread(3, -1, 1024), mill, 3, GREATEST);
        done("spread 0", mill.spread(3, 0, 1024), mill, 3, 0);
        for (int n : new int[] {-1, 1025, Integer.MIN_VALUE, Integer.MAX_VALUE}) {
            refused("spread " + n + " times", mill, x -> x.spread(0, 0, n));
        }
        refusedWithoutRegister("spread", (x, r) -> x.spread(r, 1, 1));
    }

    private static void negate() {
        Mill mill = Due.with(big(5), big(-6), ZERO, GREATEST);
        done("negate 5", mill.negate(4, 0), mill, 4, -5);
        done("negate -6", mill.negate(4, 1), mill, 4, 6);
        done("negate 0", mill.negate(4, 2), mill, 4, 0);
        done("negate in place", mill.negate(0, 0), mill, 0, -5);
        done("negate the greatest", mill.negate(3, 3), mill, 3, GREATEST.negate());
        done("negate the least", mill.negate(3, 3), mill, 3, GREATEST);
        refusedWithoutRegister("negate into", (x, r) -> x.negate(r, 0));
        refusedWithoutRegister("negate of", (x, r) -> x.negate(0, r));
    }

    private static void add() {
        long[] values = {0, 1, -1, 7, -7, 0xFFFFFFFFL, -0xFFFFFFFFL, 0x100000000L, Long.MAX_VALUE, Long.MIN_VALUE};
        for (long a : values) {
            for (long b : values) {
                Mill mill = Due.with(a, b);
                done(a + " + " + b, mill.add(2, 0, 1), mill, 2, big(a).add(big(b)));
                done(a + " + " + b + " into the first", mill.add(0, 0, 1), mill, 0, big(a).add(big(b)));
                holds("add leaves the second", mill, 1, big(b));
            }
        }
        Mill mill = Due.with(GREATEST, ONE, GREATEST.subtract(ONE), GREATEST.negate(), big(-1));
        refused("add past the limit", mill, x -> x.add(5, 0, 1));
        refused("add past the limit below 0", mill, x -> x.add(3, 3, 4));
        refused("add the greatest to itself", mill, x -> x.add(0, 0, 0));
        done("add to the limit", mill.add(5, 2, 1), mill, 5, GREATEST);
        done("add to 0", mill.add(0, 0, 3), mill, 0, 0);
        done("add to itself", mill.add(1, 1, 1), mill, 1, 2);
        refusedWithoutRegister("add into", (x, r) -> x.add(r, 0, 1));
        refusedWithoutRegister("add first", (x, r) -> x.add(0, r, 1));
        refusedWithoutRegister("add second", (x, r) -> x.add(0, 1, r));
    }

    private static void take() {
        long[] values = {0, 1, -1, 7, -7, 0xFFFFFFFFL, -0x100000000L, 0x100000000L, Long.MAX_VALUE, Long.MIN_VALUE};
        for (long a : values) {
            for (long b : values) {
                Mill mill = Due.with(a, b);
                done(a + " - " + b, mill.take(2, 0, 1), mill, 2, big(a).subtract(big(b)));
                done(a + " - " + b + " into the second", mill.take(1, 0, 1), mill, 1, big(a).subtract(big(b)));
                holds("take leaves the first", mill, 0, big(a));
            }
        }
        Mill mill = Due.with(GREATEST, ONE, GREATEST.negate(), big(-1), Due.two(65500));
        refused("take past the limit", mill, x -> x.take(5, 0, 3));
        refused("take past the limit below 0", mill, x -> x.take(5, 2, 1));
        done("take a borrow far down", mill.take(5, 4, 1), mill, 5, Due.two(65500).subtract(ONE));
        done("take from itself", mill.take(0, 0, 0), mill, 0, 0);
        refusedWithoutRegister("take into", (x, r) -> x.take(r, 0, 1));
        refusedWithoutRegister("take first", (x, r) -> x.take(0, r, 1));
        refusedWithoutRegister("take second", (x, r) -> x.take(0, 1, r));
    }

    private static void times() {
        long[] values = {0, 1, -1, 7, -7, 0xFFFFFFFFL, -0xFFFFFFFFL, 0x100000000L, Long.MAX_VALUE, Long.MIN_VALUE};
        for (long a : values) {
            for (long b : values) {
                Mill mill = Due.with(a, b);
                done(a + " * " + b, mill.times(2, 0, 1), mill, 2, big(a).multiply(big(b)));
                done(a + " * " + b + " into the first", mill.times(0, 0, 1), mill, 0, big(a).multiply(big(b)));
            }
        }
        BigInteger half = Due.two(32768).subtract(ONE);
        Mill mill = Due.with(half, half.add(big(2)), Due.two(32768), GREATEST, big(-1), Due.two(32767), ZERO);
        done("a product just at the limit", mill.times(7, 0, 1), mill, 7, GREATEST);
        refused("a product of 2^65536", mill, x -> x.times(7, 2, 2));
        refused("a product of 65537 bits", mill, x -> x.times(7, 1, 2));
        refused("a far too long product", mill, x -> x.times(3, 3, 3));
        done("a product of 2^65535", mill.times(7, 2, 5), mill, 7, Due.two(65535));
        done("the greatest times -1", mill.times(7, 3, 4), mill, 7, GREATEST.negate());
        done("the greatest times 0", mill.times(7, 3, 6), mill, 7, 0);
        done("a square in place", mill.times(0, 0, 0), mill, 0, half.multiply(half));
        refusedWithoutRegister("times into", (x, r) -> x.times(r, 0, 1));
        refusedWithoutRegister("times first", (x, r) -> x.times(0, r, 1));
        refusedWithoutRegister("times second", (x, r) -> x.times(0, 1, r));
    }

    private static void dividesTo(long a, long b, boolean down, long q, long r) {
        Mill mill = Due.with(a, b);
        String what = a + " / " + b + (down ? " down" : " cut");
        done(what, mill.divide(2, 3, 0, 1, down), mill, 2, q);
        holds(what + ", rest", mill, 3, big(r));
        done(what + " into both", mill.divide(1, 0, 0, 1, down), mill, 1, q);
        holds(what + " into both, rest", mill, 0, big(r));
    }

    private static void divide() {
        dividesTo(7, 2, false, 3, 1);
        dividesTo(7, 2, true, 3, 1);
        dividesTo(-7, 2, false, -3, -1);
        dividesTo(-7, 2, true, -4, 1);
        dividesTo(7, -2, false, -3, 1);
        dividesTo(7, -2, true, -4, -1);
        dividesTo(-7, -2, false, 3, -1);
        dividesTo(-7, -2, true, 3, -1);
        dividesTo(-8, 2, true, -4, 0);
        dividesTo(8, -2, true, -4, 0);
        dividesTo(1, -5, true, -1, -4);
        dividesTo(-1, 5, true, -1, 4);
        dividesTo(-1, 5, false, 0, -1);
        dividesTo(0, -5, true, 0, 0);
        dividesTo(Long.MIN_VALUE, 3, true, -3074457345618258603L, 1);
        // These make a guessed digit of the quotient too great, by 1 after the second digit was looked at.
        BigInteger[] dividends = {new BigInteger("7fffffff800000010000000000000000", 16), new BigInteger("800000000000000000000003", 16),
            GREATEST, GREATEST.negate(), Due.two(65535), new BigInteger("800000000000fffe00000000", 16)};
        BigInteger[] divisors = {new BigInteger("800000008000000200000005", 16), new BigInteger("200000000000000000000001", 16),
            Due.two(32768).subtract(ONE), Due.two(30000).add(ONE), big(-3), new BigInteger("80000000ffff", 16), GREATEST, ONE};
        for (BigInteger a : dividends) {
            for (BigInteger b : divisors) {
                Mill mill = Due.with(a, b);
                BigInteger[] cut = a.divideAndRemainder(b);
                done("a long quotient", mill.divide(2, 3, 0, 1, false), mill, 2, cut[0]);
                holds("a long quotient's rest", mill, 3, cut[1]);
                boolean isLess = cut[1].signum() != 0 && a.signum() != b.signum();
                done("a long quotient down", mill.divide(2, 3, 0, 1, true), mill, 2, isLess ? cut[0].subtract(ONE) : cut[0]);
                holds("a long quotient's rest down", mill, 3, isLess ? cut[1].add(b) : cut[1]);
            }
        }
    }

    private static void divideRefused() {
        Mill mill = Due.with(7, 0, 2);
        refused("divide by 0", mill, x -> x.divide(3, 4, 0, 1, false));
        refused("divide 0 by 0", mill, x -> x.divide(3, 4, 1, 1, true));
        refused("divide into one register", mill, x -> x.divide(3, 3, 0, 2, false));
        done("divide by itself", mill.divide(3, 4, 2, 2, true), mill, 3, 1);
        refusedWithoutRegister("divide q", (x, r) -> x.divide(r, 0, 1, 2, false));
        refusedWithoutRegister("divide r", (x, r) -> x.divide(0, r, 1, 2, false));
        refusedWithoutRegister("divide a", (x, r) -> x.divide(0, 1, r, 2, true));
        refusedWithoutRegister("divide b", (x, r) -> x.divide(0, 1, 2, r, true));
    }

    private static BigInteger joined(BigInteger a, BigInteger b, int how) {
        return how == 0 ? a.and(b) : how == 1 ? a.or(b) : how == 2 ? a.xor(b) : a.andNot(b);
    }

    private static void logic() {
        Mill mill = Due.with(12, 10, -6, 0);
        done("12 and 10", mill.logic(4, 0, 1, 0), mill, 4, 8);
        done("12 or 10", mill.logic(4, 0, 1, 1), mill, 4, 14);
        done("just one of 12 and 10", mill.logic(4, 0, 1, 2), mill, 4, 6);
        done("12 without 10", mill.logic(4, 0, 1, 3), mill, 4, 4);
        done("-6 without 10", mill.logic(4, 2, 1, 3), mill, 4, -16);
        done("12 and -6 in place", mill.logic(0, 0, 2, 0), mill, 0, 8);
        done("a number without itself", mill.logic(2, 2, 2, 3), mill, 2, 0);
        BigInteger[] values = {ZERO, ONE, big(-1), big(-2), big(0xFFFFFFFFL), big(-0x100000000L), Due.two(64).negate(),
            Due.two(95).negate(), Due.two(100).subtract(ONE), new BigInteger("-123456789abcdef000000000000000000", 16), Due.two(65535).negate()};
        for (BigInteger a : values) {
            for (BigInteger b : values) {
                mill = Due.with(a, b);
                for (int how = 0; how < 4; how++) {
                    done("logic " + how, mill.logic(2, 0, 1, how), mill, 2, joined(a, b, how));
                }
            }
        }
        for (int how : new int[] {-1, 4, Integer.MIN_VALUE, Integer.MAX_VALUE}) {
            refused("logic " + how, mill, x -> x.logic(2, 0, 1, how));
        }
        refusedWithoutRegister("logic into", (x, r) -> x.logic(r, 0, 1, 1));
        refusedWithoutRegister("logic first", (x, r) -> x.logic(0, r, 1, 1));
        refusedWithoutRegister("logic second", (x, r) -> x.logic(0, 1, r, 1));
    }

    private static void logicAtTheLimit() {
        BigInteger least = GREATEST.negate();
        Mill mill = Due.with(least, least.add(ONE), ONE, GREATEST);
        refused("-2^65536 by and", mill, x -> x.logic(4, 0, 1, 0));
        refused("-2^65536 by just one", mill, x -> x.logic(4, 0, 2, 2));
        refused("-2^65536 by has not", mill, x -> x.logic(0, 0, 2, 3));
        done("or of the least two", mill.logic(4, 0, 1, 1), mill, 4, least.or(least.add(ONE)));
        done("the least and itself", mill.logic(4, 0, 0, 0), mill, 4, least);
        done("the least or 1", mill.logic(4, 0, 2, 1), mill, 4, least);
        done("the greatest and the least", mill.logic(4, 3, 0, 0), mill, 4, 1);
        done("just one of the greatest and the least", mill.logic(4, 3, 0, 2), mill, 4, -2);
    }

    private static void shift() {
        Mill mill = Due.with(big(5), big(-5), ZERO, Due.two(65535), GREATEST.negate(), big(-8));
        done("shift by 0", mill.shift(6, 1, 0), mill, 6, -5);
        done("shift up", mill.shift(6, 0, 100), mill, 6, Due.two(100).multiply(big(5)));
        done("shift up by a whole word", mill.shift(6, 1, 64), mill, 6, Due.two(64).multiply(big(-5)));
        done("shift down", mill.shift(6, 0, -1), mill, 6, 2);
        done("shift down below 0", mill.shift(6, 1, -1), mill, 6, -3);
        done("shift down below 0 without rest", mill.shift(6, 5, -3), mill, 6, -1);
        done("shift down below 0 with rest", mill.shift(6, 5, -4), mill, 6, -1);
        done("shift all away", mill.shift(6, 0, -3), mill, 6, 0);
        done("shift down far", mill.shift(6, 0, Integer.MIN_VALUE), mill, 6, 0);
        done("shift down far below 0", mill.shift(6, 1, Integer.MIN_VALUE), mill, 6, -1);
        done("shift the greatest away", mill.shift(6, 4, -65536), mill, 6, -1);
        done("shift the greatest down", mill.shift(6, 4, -65535), mill, 6, -2);
        done("shift 2^65535 down", mill.shift(6, 3, -65535), mill, 6, 1);
        done("shift 0 up far", mill.shift(6, 2, Integer.MAX_VALUE), mill, 6, 0);
        done("shift 0 down far", mill.shift(6, 2, Integer.MIN_VALUE), mill, 6, 0);
        done("shift up to the limit", mill.shift(6, 1, 65533), mill, 6, Due.two(65533).multiply(big(-5)));
        refused("shift past the limit", mill, x -> x.shift(6, 1, 65534));
        refused("shift far past the limit", mill, x -> x.shift(0, 0, Integer.MAX_VALUE));
        refused("shift 2^65535 up", mill, x -> x.shift(3, 3, 1));
        done("shift in place up", mill.shift(0, 0, 33), mill, 0, Due.two(33).multiply(big(5)));
        done("shift in place down", mill.shift(0, 0, -33), mill, 0, 5);
        refusedWithoutRegister("shift into", (x, r) -> x.shift(r, 0, 1));
        refusedWithoutRegister("shift of", (x, r) -> x.shift(0, r, 1));
    }

    private static void change() {
        BigInteger[] values = {ZERO, ONE, big(-1), big(6), big(-6), Due.two(64), Due.two(64).negate(), Due.two(40).subtract(ONE), Due.two(96).negate().add(ONE)};
        for (BigInteger a : values) {
            for (int k : new int[] {0, 1, 2, 31, 32, 33, 63, 64, 95, 96, 200, 65535}) {
                Mill mill = Due.with(a);
                done("bit " + k + " to 0", mill.change(1, 0, k, 0), mill, 1, a.clearBit(k));
                done("bit " + k + " to 1", mill.change(1, 0, k, 1), mill, 1, a.setBit(k));
                done("bit " + k + " over", mill.change(1, 0, k, 2), mill, 1, a.flipBit(k));
                done("bit " + k + " over in place", mill.change(0, 0, k, 2), mill, 0, a.flipBit(k));
            }
        }
        Mill mill = Due.with(5);
        for (int how : new int[] {-1, 3, 4, Integer.MIN_VALUE, Integer.MAX_VALUE}) {
            refused("change how " + how, mill, x -> x.change(1, 0, 1, how));
        }
        for (int k : new int[] {-1, -32, Integer.MIN_VALUE}) {
            refused("change bit " + k, mill, x -> x.change(1, 0, k, 0));
        }
        refusedWithoutRegister("change into", (x, r) -> x.change(r, 0, 1, 2));
        refusedWithoutRegister("change of", (x, r) -> x.change(0, r, 1, 2));
    }

    private static void changeFarAbove() {
        BigInteger least = GREATEST.negate();
        Mill mill = Due.with(big(5), big(-5), least, GREATEST);
        for (int k : new int[] {65536, 65537, 70000, Integer.MAX_VALUE}) {
            done("a far 0 to 0", mill.change(4, 0, k, 0), mill, 4, 5);
            done("a far 1 to 1", mill.change(4, 1, k, 1), mill, 4, -5);
            done("a far 0 of the greatest to 0", mill.change(4, 3, k, 0), mill, 4, GREATEST);
            done("a far 1 of the least to 1", mill.change(4, 2, k, 1), mill, 4, least);
            refused("a far 0 to 1", mill, x -> x.change(4, 0, k, 1));
            refused("a far 0 over", mill, x -> x.change(4, 0, k, 2));
            refused("a far 1 to 0", mill, x -> x.change(4, 1, k, 0));
            refused("a far 1 over", mill, x -> x.change(4, 1, k, 2));
        }
        refused("bit 0 of the least to 0", mill, x -> x.change(4, 2, 0, 0));
        refused("bit 0 of the least over", mill, x -> x.change(2, 2, 0, 2));
        done("bit 1 of the least to 1", mill.change(4, 2, 1, 1), mill, 4, least.add(big(2)));
    }

    private static void power() {
        Mill mill = Due.with(0, 1, -1, 2, -2, 3, -5);
        done("0 to 0", mill.power(7, 0, 0), mill, 7, 1);
        done("0 to 9", mill.power(7, 0, 9), mill, 7, 0);
        done("0 to the most", mill.power(7, 0, Integer.MAX_VALUE), mill, 7, 0);
        done("1 to the most", mill.power(7, 1, Integer.MAX_VALUE), mill, 7, 1);
        done("-1 to the most", mill.power(7, 2, Integer.MAX_VALUE), mill, 7, -1);
        done("-1 to an even", mill.power(7, 2, Integer.MAX_VALUE - 1), mill, 7, 1);
        done("-1 to 0", mill.power(7, 2, 0), mill, 7, 1);
        done("-5 to 0", mill.power(7, 6, 0), mill, 7, 1);
        done("-5 to 1", mill.power(7, 6, 1), mill, 7, -5);
        done("-5 to 3", mill.power(7, 6, 3), mill, 7, -125);
        done("-5 to 4", mill.power(7, 6, 4), mill, 7, 625);
        done("2 to 65535", mill.power(7, 3, 65535), mill, 7, Due.two(65535));
        done("-2 to 65535", mill.power(7, 4, 65535), mill, 7, Due.two(65535).negate());
        refused("2 to 65536", mill, x -> x.power(7, 3, 65536));
        refused("-2 to 65537", mill, x -> x.power(7, 4, 65537));
        refused("2 to the most", mill, x -> x.power(3, 3, Integer.MAX_VALUE));
        done("3 to 41348", mill.power(7, 5, 41348), mill, 7, big(3).pow(41348));
        refused("3 to 41349", mill, x -> x.power(7, 5, 41349));
        refused("a power below 0", mill, x -> x.power(7, 5, -1));
        refused("1 to below 0", mill, x -> x.power(7, 1, Integer.MIN_VALUE));
        done("a power in place", mill.power(5, 5, 100), mill, 5, big(3).pow(100));
        BigInteger half = Due.two(32768).subtract(ONE);
        mill = Due.with(half, Due.two(32768), GREATEST);
        done("a square", mill.power(3, 0, 2), mill, 3, half.multiply(half));
        refused("a square of 2^65536", mill, x -> x.power(3, 1, 2));
        refused("the greatest squared", mill, x -> x.power(3, 2, 2));
        done("the greatest to 1", mill.power(3, 2, 1), mill, 3, GREATEST);
        refusedWithoutRegister("power into", (x, r) -> x.power(r, 0, 1));
        refusedWithoutRegister("power of", (x, r) -> x.power(0, r, 1));
    }

    private static void dividesBoth(BigInteger a, BigInteger b, BigInteger want) {
        Mill mill = Due.with(a, b);
        done("common", mill.common(2, 0, 1), mill, 2, want);
        done("common the other way", mill.common(2, 1, 0), mill, 2, want);
        done("common in place", mill.common(1, 0, 1), mill, 1, want);
    }

    /** Fibonacci's numbers n and n + 1 in registers 0 and 1: so long ones in so few calls are found by doubling n. */
    private static Mill fibonacci(int n) {
        Mill mill = Due.with(0, 1);
        boolean done = true;
        for (int i = 31 - Integer.numberOfLeadingZeros(n); i >= 0; i--) {
            done &= mill.add(2, 1, 1) & mill.take(2, 2, 0) & mill.times(2, 2, 0);
            done &= mill.times(0, 0, 0) & mill.times(1, 1, 1) & mill.add(1, 0, 1) & mill.shift(0, 2, 0);
            if ((n >> i & 1) != 0) {
                done &= mill.add(2, 0, 1) & mill.shift(0, 1, 0) & mill.shift(1, 2, 0);
            }
        }
        Due.same("Fibonacci's numbers", done, true);
        return mill;
    }

    private static void common() {
        dividesBoth(big(12), big(18), big(6));
        dividesBoth(big(-12), big(18), big(6));
        dividesBoth(big(-12), big(-18), big(6));
        dividesBoth(ZERO, ZERO, ZERO);
        dividesBoth(ZERO, big(-9), big(9));
        dividesBoth(big(7), big(7), big(7));
        dividesBoth(ONE, GREATEST, ONE);
        dividesBoth(ZERO, GREATEST.negate(), GREATEST);
        dividesBoth(GREATEST, Due.two(65535), ONE);
        dividesBoth(GREATEST, Due.two(4096).subtract(ONE), Due.two(4096).subtract(ONE));
        dividesBoth(Due.two(65535), Due.two(40000).multiply(big(3)), Due.two(40000));
        // Fibonacci's neighbours take the most steps of all.
        Mill mill = fibonacci(86400);
        done("common of neighbours", mill.common(3, 0, 1), mill, 3, 1);
        Due.same("their multiples", mill.put(4, -1000003) & mill.times(0, 0, 4) & mill.times(1, 1, 4), true);
        done("common of their multiples", mill.common(3, 1, 0), mill, 3, 1000003);
        refusedWithoutRegister("common into", (x, r) -> x.common(r, 0, 1));
        refusedWithoutRegister("common first", (x, r) -> x.common(0, r, 1));
        refusedWithoutRegister("common second", (x, r) -> x.common(0, 1, r));
    }

    private static void inverse() {
        Mill mill = Due.with(3, 7, -3, 1, 0, 6, 9, -7, 10);
        done("3 by 7", mill.inverse(9, 0, 1), mill, 9, 5);
        done("-3 by 7", mill.inverse(9, 2, 1), mill, 9, 2);
        done("10 by 7", mill.inverse(9, 8, 1), mill, 9, 5);
        done("by 1", mill.inverse(9, 0, 3), mill, 9, 0);
        done("0 by 1", mill.inverse(9, 4, 3), mill, 9, 0);
        done("1 by 7", mill.inverse(9, 3, 1), mill, 9, 1);
        refused("6 by 9", mill, x -> x.inverse(9, 5, 6));
        refused("0 by 7", mill, x -> x.inverse(9, 4, 1));
        refused("7 by 7", mill, x -> x.inverse(9, 1, 1));
        refused("by 0", mill, x -> x.inverse(9, 3, 4));
        refused("by -7", mill, x -> x.inverse(9, 0, 7));
        done("into the modulus", mill.inverse(1, 0, 1), mill, 1, 5);
        BigInteger prime = Due.two(2203).subtract(ONE);
        BigInteger[] values = {big(2), big(-2), prime.subtract(ONE), Due.two(1000).add(big(77)), GREATEST, GREATEST.negate()};
        for (BigInteger a : values) {
            mill = Due.with(a, prime);
            done("by 2^2203 - 1", mill.inverse(2, 0, 1), mill, 2, a.modInverse(prime));
        }
        mill = Due.with(GREATEST, Due.two(65535), GREATEST.subtract(ONE), big(3));
        done("by 2^65535", mill.inverse(4, 0, 1), mill, 4, GREATEST.modInverse(Due.two(65535)));
        done("by the greatest", mill.inverse(4, 2, 0), mill, 4, GREATEST.subtract(ONE));
        done("2^65535 by the greatest", mill.inverse(4, 1, 0), mill, 4, 2);
        refused("3 by the greatest", mill, x -> x.inverse(4, 3, 0));
        refusedWithoutRegister("inverse into", (x, r) -> x.inverse(r, 1, 0));
        refusedWithoutRegister("inverse of", (x, r) -> x.inverse(0, r, 1));
        refusedWithoutRegister("inverse by", (x, r) -> x.inverse(0, 1, r));
    }

    private static void modulo() {
        Mill mill = Due.with(3, 5, 7, -3, -5, 1, 0, 6, -7, 9);
        done("3 to 5 by 7", mill.modulo(10, 0, 1, 2), mill, 10, 5);
        done("-3 to 5 by 7", mill.modulo(10, 3, 1, 2), mill, 10, 2);
        done("3 to -5 by 7", mill.modulo(10, 0, 4, 2), mill, 10, 3);
        done("-3 to -5 by 7", mill.modulo(10, 3, 4, 2), mill, 10, 4);
        done("3 to 0 by 7", mill.modulo(10, 0, 6, 2), mill, 10, 1);
        done("0 to 0 by 7", mill.modulo(10, 6, 6, 2), mill, 10, 1);
        done("0 to 5 by 7", mill.modulo(10, 6, 1, 2), mill, 10, 0);
        done("6 to 5 by 9", mill.modulo(10, 7, 1, 9), mill, 10, 0);
        done("3 to 5 by 1", mill.modulo(10, 0, 1, 5), mill, 10, 0);
        done("3 to 0 by 1", mill.modulo(10, 0, 6, 5), mill, 10, 0);
        done("0 to -5 by 1", mill.modulo(10, 6, 4, 5), mill, 10, 0);
        refused("6 to -5 by 9", mill, x -> x.modulo(10, 7, 4, 9));
        refused("0 to -5 by 7", mill, x -> x.modulo(10, 6, 4, 2));
        refused("by 0", mill, x -> x.modulo(10, 0, 1, 6));
        refused("by -7", mill, x -> x.modulo(10, 0, 1, 8));
        refused("to 0 by 0", mill, x -> x.modulo(10, 0, 6, 6));
        done("into the power", mill.modulo(1, 0, 1, 2), mill, 1, 5);
        done("into the modulus", mill.modulo(2, 0, 1, 2), mill, 2, 5);
        BigInteger prime = Due.two(521).subtract(ONE);
        BigInteger even = Due.two(600).subtract(Due.two(40));
        BigInteger a = GREATEST.divide(big(1234577)).shiftRight(50000).negate();
        BigInteger e = Due.two(3000).subtract(Due.two(1500)).add(big(12345));
        mill = Due.with(a, e, e.negate(), prime, even);
        done("a long power", mill.modulo(5, 0, 1, 3), mill, 5, a.modPow(e, prime));
        done("a long power below 0", mill.modulo(5, 0, 2, 3), mill, 5, a.modPow(e.negate(), prime));
        done("a long power by an even one", mill.modulo(5, 0, 1, 4), mill, 5, a.modPow(e, even));
        refusedWithoutRegister("modulo into", (x, r) -> x.modulo(r, 0, 1, 2));
        refusedWithoutRegister("modulo of", (x, r) -> x.modulo(0, r, 1, 2));
        refusedWithoutRegister("modulo to", (x, r) -> x.modulo(0, 1, r, 2));
        refusedWithoutRegister("modulo by", (x, r) -> x.modulo(0, 1, 2, r));
    }

    private static void moduloWork() {
        BigInteger of256 = Due.two(256).subtract(big(189));
        Mill mill = Due.with(GREATEST, of256, Due.two(256), ONE, big(-1), ZERO, big(2), big(3), Due.two(46340).subtract(ONE), Due.two(46340),
            GREATEST.negate());
        // 7 divides no 2^(2^n) - 1, so this has an inverse by the greatest.
        BigInteger a = big(7).pow(40);
        Due.write(mill, 11, a);
        // The refused ones first: to read all registers takes new objects, on which what was done is done again.
        refused("65536 bits by 257", mill, x -> x.modulo(12, 11, 0, 2));
        refused("65536 bits below 0 by 257", mill, x -> x.modulo(12, 11, 10, 2));
        refused("2 bits by 65536", mill, x -> x.modulo(12, 11, 6, 0));
        refused("3 has 2 bits", mill, x -> x.modulo(12, 11, 7, 0));
        refused("2 bits by 46341", mill, x -> x.modulo(12, 0, 7, 9));
        done("65536 bits by 256", mill.modulo(12, 11, 0, 1), mill, 12, a.modPow(GREATEST, of256));
        done("65536 bits below 0 by 256", mill.modulo(12, 11, 10, 1), mill, 12, a.modPow(GREATEST.negate(), of256));
        done("1 bit by 65536", mill.modulo(12, 11, 3, 0), mill, 12, a);
        done("1 bit below 0 by 65536", mill.modulo(12, 11, 4, 0), mill, 12, a.modInverse(GREATEST));
        done("0 bits by 65536", mill.modulo(12, 11, 5, 0), mill, 12, 1);
        done("2 bits by 46340", mill.modulo(12, 0, 7, 8), mill, 12, GREATEST.modPow(big(3), Due.two(46340).subtract(ONE)));
    }

    private static void compare() {
        BigInteger[] rising = {GREATEST.negate(), Due.two(64).negate(), big(-5), big(-4), ZERO, big(3), big(0x100000003L), big(0x300000001L), Due.two(64), GREATEST};
        Mill mill = Due.with(rising);
        for (int a = 0; a < rising.length; a++) {
            for (int b = 0; b < rising.length; b++) {
                Due.same("compare " + a + " " + b, mill.compare(a, b), Integer.compare(a, b));
            }
        }
        for (int r : NO_REGISTERS) {
            Due.same("compare " + r, mill.compare(r, 0), -2);
            Due.same("compare with " + r, mill.compare(0, r), -2);
        }
    }

    private static void sign() {
        Mill mill = Due.with(GREATEST, GREATEST.negate(), ZERO, ONE, big(-1));
        int[] wants = {1, -1, 0, 1, -1};
        for (int r = 0; r < wants.length; r++) {
            Due.same("sign " + r, mill.sign(r), wants[r]);
        }
        Due.same("add to 0", mill.add(5, 0, 1), true);
        Due.same("sign of a sum that is 0", mill.sign(5), 0);
        Due.same("negate 0", mill.negate(5, 5), true);
        Due.same("sign of 0 negated", mill.sign(5), 0);
        for (int r : NO_REGISTERS) {
            Due.same("sign of register " + r, mill.sign(r), -2);
        }
    }

    private static void length() {
        BigInteger[] values = {ZERO, big(-1), ONE, big(-2), big(2), big(-3), Due.two(32), Due.two(32).negate(), Due.two(32).negate().subtract(ONE),
            GREATEST, GREATEST.negate(), Due.two(65535), Due.two(65535).negate()};
        int[] wants = {0, 0, 1, 1, 2, 2, 33, 32, 33, 65536, 65536, 65536, 65535};
        Mill mill = Due.with(values);
        for (int r = 0; r < wants.length; r++) {
            Due.same("length " + r, mill.length(r), wants[r]);
        }
        for (int r : NO_REGISTERS) {
            Due.same("length of register " + r, mill.length(r), -1);
        }
    }

    private static void ones() {
        BigInteger[] values = {ZERO, big(-1), ONE, big(-2), big(7), big(-8), big(-7), Due.two(64).negate(), GREATEST, GREATEST.negate(), Due.two(65535).negate()};
        int[] wants = {0, 0, 1, 1, 3, 3, 2, 64, 65536, 65535, 65535};
        Mill mill = Due.with(values);
        for (int r = 0; r < wants.length; r++) {
            Due.same("ones " + r, mill.ones(r), wants[r]);
        }
        for (int r : NO_REGISTERS) {
            Due.same("ones of register " + r, mill.ones(r), -1);
        }
    }

    private static void lowest() {
        BigInteger[] values = {ZERO, big(-1), ONE, big(-2), big(12), big(-12), Due.two(64), Due.two(64).negate(), GREATEST, Due.two(65535), Due.two(65535).negate()};
        int[] wants = {-1, 0, 0, 1, 2, 2, 64, 64, 0, 65535, 65535};
        Mill mill = Due.with(values);
        for (int r = 0; r < wants.length; r++) {
            Due.same("lowest " + r, mill.lowest(r), wants[r]);
        }
        for (int r : NO_REGISTERS) {
            Due.same("lowest of register " + r, mill.lowest(r), -1);
        }
    }

    private static void word() {
        Mill mill = Due.with(big(0x123456789L), big(-0x123456789L), Due.two(64).negate(), GREATEST, GREATEST.negate());
        int[][] rows = {{0, 0, 0x23456789}, {0, 1, 1}, {0, 2, 0}, {1, 0, -0x23456789}, {1, 1, -2}, {1, 2, -1}, {2, 0, 0}, {2, 1, 0}, {2, 2, -1},
            {3, 0, -1}, {3, 2047, -1}, {3, 2048, 0}, {4, 0, 1}, {4, 1, 0}, {4, 2047, 0}, {4, 2048, -1}, {4, Integer.MAX_VALUE, -1},
            {3, Integer.MAX_VALUE, 0}, {5, 0, 0}, {4, -1, 0}, {4, Integer.MIN_VALUE, 0}};
        for (int[] row : rows) {
            Due.same("word " + row[0] + " " + row[1], mill.word(row[0], row[1]), row[2]);
        }
        for (int r : NO_REGISTERS) {
            Due.same("word of register " + r, mill.word(r, 0), 0);
        }
    }

    /** The example of README.md. */
    private static void readme() {
        Mill mill = new Mill();
        Due.same("put", mill.put(0, 3), true);
        Due.same("power", mill.power(1, 0, 200), true);
        Due.same("put", mill.put(2, 1000003), true);
        Due.same("inverse", mill.inverse(3, 1, 2), true);
        Due.same("word", mill.word(3, 0), 219438);
        Due.same("put", mill.put(4, -7), true);
        BigInteger pushed = Due.two(64).multiply(big(7)).add(big(0x0123456789ABCDEFL)).negate();
        done("push", mill.push(4, 0x0123456789ABCDEFL), mill, 4, pushed);
        done("divide, rest", mill.divide(5, 6, 4, 0, true), mill, 6, 2);
        refused("divide by 0", mill, x -> x.divide(5, 6, 4, 7, true));
    }
}
