import java.math.BigInteger;
import java.util.function.Consumer;
import java.util.function.Predicate;

/**
 * What the tests of the document's sentences share. The document promises nothing of an object after its
 * 512th call, so numbers are made and looked at here with a few calls each, however long they are.
 */
final class Look {
    /** These are no registers. */
    static final int[] NONE = {-1, 16, 17, -16, 31, 32, Integer.MIN_VALUE, Integer.MIN_VALUE + 1, Integer.MAX_VALUE};

    private static final int[] PRIMES = {2, 3, 5, 7, 11, 13, 17, 19, 23, 29, 31, 37, 41, 43, 47, 53};

    private static String sentence = "";
    private static int checked = 1;

    private Look() {
    }

    /** What is checked from here on belongs to this sentence of the document. */
    static void sentence(String text) {
        Due.same("a test for: " + sentence, checked > 0, true);
        sentence = text;
        checked = 0;
    }

    static void same(String what, Object got, Object want) {
        checked++;
        Due.same(sentence + " | " + what, got, want);
    }

    /** Nine marks of a number: its sign, its bits' count, how many are unlike the sign, the lowest 1, and some words. */
    static String of(Mill mill, int r) {
        int length = mill.length(r);
        int top = length / 32;
        return mill.sign(r) + " " + length + " " + mill.ones(r) + " " + mill.lowest(r) + " " + mill.word(r, 0) + " " + mill.word(r, 1) + " "
            + mill.word(r, top / 2) + " " + mill.word(r, top) + " " + mill.word(r, top + 1);
    }

    static String of(BigInteger value) {
        int length = value.bitLength();
        int top = length / 32;
        return value.signum() + " " + length + " " + value.bitCount() + " " + value.getLowestSetBit() + " " + word(value, 0) + " " + word(value, 1) + " "
            + word(value, top / 2) + " " + word(value, top) + " " + word(value, top + 1);
    }

    private static int word(BigInteger value, int k) {
        return value.shiftRight(32 * k).intValue();
    }

    static String ofAll(Mill mill) {
        StringBuilder all = new StringBuilder();
        for (int r = 0; r < 16; r++) {
            all.append(of(mill, r)).append('\n');
        }
        return all.toString();
    }

    static void holds(String what, Mill mill, int r, BigInteger want) {
        same(what, of(mill, r), of(want));
    }

    static void holds(String what, Mill mill, int r, long want) {
        holds(what, mill, r, BigInteger.valueOf(want));
    }

    static void done(String what, boolean answer, Mill mill, int r, BigInteger want) {
        same(what, answer, true);
        holds(what, mill, r, want);
    }

    static void done(String what, boolean answer, Mill mill, int r, long want) {
        done(what, answer, mill, r, BigInteger.valueOf(want));
    }

    /** A new object with another prime in each register, then with what is made in it. */
    static Mill filled(Consumer<Mill> make) {
        Mill mill = new Mill();
        boolean done = true;
        for (int r = 0; r < 16; r++) {
            done &= mill.put(r, PRIMES[r]);
        }
        make.accept(mill);
        same("put primes", done, true);
        return mill;
    }

    static Mill filled() {
        return filled(x -> { });
    }

    /** The call answers false on such an object, and all sixteen registers stay. */
    static void refused(String what, Consumer<Mill> make, Predicate<Mill> call) {
        Mill mill = filled(make);
        String before = ofAll(mill);
        same(what, call.test(mill), false);
        same(what + " changes nothing", ofAll(mill), before);
    }

    /** r becomes 2^65536 - 1. */
    static void greatest(Mill mill, int r) {
        same("greatest", mill.spread(r, -1, 1024), true);
    }

    /** r becomes -(2^65536 - 1). */
    static void least(Mill mill, int r) {
        greatest(mill, r);
        same("least", mill.negate(r, r), true);
    }

    /** r becomes v * 2^n. */
    static void shifted(Mill mill, int r, long v, int n) {
        same("shifted", mill.put(r, v) && mill.shift(r, r, n), true);
    }

    /** r becomes 2^n - 1. */
    static void ones(Mill mill, int r, int n) {
        greatest(mill, r);
        same("ones", mill.shift(r, r, n - 65536), true);
    }

    static void values(Mill mill, long... values) {
        for (int r = 0; r < values.length; r++) {
            same("put", mill.put(r, values[r]), true);
        }
    }

    static void end(String test) {
        sentence("");
        Due.end(test);
    }
}
