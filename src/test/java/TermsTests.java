import java.math.BigInteger;
import java.util.Arrays;
import java.util.function.Consumer;
import java.util.function.Predicate;

/** The sentences of the document's section "Terms": each by itself, on every call that it binds. */
public final class TermsTests {
    private static final BigInteger ONE = BigInteger.ONE;
    private static final BigInteger GREATEST = Due.GREATEST;
    private static final BigInteger LEAST = GREATEST.negate();

    private interface Doing {
        boolean on(Mill mill, int[] r);
    }

    /** A call with its registers: first those into which it puts numbers, then those out of which it takes them. */
    private record Call(String name, int puts, int takes, Doing doing) {
        int registers() {
            return puts + takes;
        }
    }

    private static final Call[] CALLS = {
        new Call("put", 1, 0, (x, r) -> x.put(r[0], -77)),
        new Call("push", 1, 0, (x, r) -> x.push(r[0], 99)),
        new Call("spread", 1, 0, (x, r) -> x.spread(r[0], 5, 3)),
        new Call("negate", 1, 1, (x, r) -> x.negate(r[0], r[1])),
        new Call("add", 1, 2, (x, r) -> x.add(r[0], r[1], r[2])),
        new Call("take", 1, 2, (x, r) -> x.take(r[0], r[1], r[2])),
        new Call("times", 1, 2, (x, r) -> x.times(r[0], r[1], r[2])),
        new Call("divide cut", 2, 2, (x, r) -> x.divide(r[0], r[1], r[2], r[3], false)),
        new Call("divide down", 2, 2, (x, r) -> x.divide(r[0], r[1], r[2], r[3], true)),
        new Call("logic 0", 1, 2, (x, r) -> x.logic(r[0], r[1], r[2], 0)),
        new Call("logic 1", 1, 2, (x, r) -> x.logic(r[0], r[1], r[2], 1)),
        new Call("logic 2", 1, 2, (x, r) -> x.logic(r[0], r[1], r[2], 2)),
        new Call("logic 3", 1, 2, (x, r) -> x.logic(r[0], r[1], r[2], 3)),
        new Call("shift up", 1, 1, (x, r) -> x.shift(r[0], r[1], 37)),
        new Call("shift down", 1, 1, (x, r) -> x.shift(r[0], r[1], -2)),
        new Call("change 0", 1, 1, (x, r) -> x.change(r[0], r[1], 1, 0)),
        new Call("change 1", 1, 1, (x, r) -> x.change(r[0], r[1], 40, 1)),
        new Call("change 2", 1, 1, (x, r) -> x.change(r[0], r[1], 2, 2)),
        new Call("power", 1, 1, (x, r) -> x.power(r[0], r[1], 3)),
        new Call("common", 1, 2, (x, r) -> x.common(r[0], r[1], r[2])),
        new Call("inverse", 1, 2, (x, r) -> x.inverse(r[0], r[1], r[2])),
        new Call("modulo", 1, 3, (x, r) -> x.modulo(r[0], r[1], r[2], r[3])),
    };

    public static void main(String[] args) {
        registers();
        zeroAtFirst();
        numbersToTheLimit();
        size();
        bitsNotBelow();
        bitsBelow();
        words();
        answersTrue();
        noRegister();
        sameRegisters();
        tooLong();
        tooLongByBits();
        tooLongByPowers();
        takenFirst();
        lastCall();
        Look.end("TermsTests");
    }

    /** The i-th choice of registers: over all sixteen, each register comes at each place, and none comes twice in one. */
    private static int[] choice(Call call, int i) {
        int[] r = new int[call.registers()];
        for (int j = 0; j < r.length; j++) {
            r[j] = (i + 5 * j) % 16;
        }
        return r;
    }

    private static void registers() {
        Look.sentence("REGISTERS are 0 .. 15.");
        for (Call call : CALLS) {
            for (int i = 0; i < 16; i++) {
                mirrored(call, choice(call, i));
            }
        }
    }

    /** What stands in other registers does not matter: with all registers in reverse order, the same comes out. */
    private static void mirrored(Call call, int[] r) {
        Mill mill = Look.filled();
        Mill mirror = Look.filled(x -> {
            Mill primes = Look.filled();
            for (int k = 0; k < 16; k++) {
                Look.same("mirror", x.put(15 - k, primes.word(k, 0)), true);
            }
        });
        int[] other = new int[r.length];
        for (int j = 0; j < r.length; j++) {
            other[j] = 15 - r[j];
        }
        String what = call.name + " with register " + r[0];
        Look.same(what, call.doing.on(mill, r), true);
        Look.same(what + " mirrored", call.doing.on(mirror, other), true);
        for (int k = 0; k < 16; k++) {
            Look.same(what + ", register " + k, Look.of(mill, k), Look.of(mirror, 15 - k));
        }
    }

    private static void zeroAtFirst() {
        Look.sentence("Each has a NUMBER .. 0 at first.");
        Mill mill = new Mill();
        for (int r = 0; r < 16; r++) {
            Look.holds("at first", mill, r, 0);
            Look.same("at first, compared", mill.compare(r, 15 - r), 0);
        }
    }

    private static void numbersToTheLimit() {
        Look.sentence("Each has a NUMBER above -2^65536 and below 2^65536");
        Mill mill = new Mill();
        for (int r = 0; r < 16; r += 2) {
            Look.greatest(mill, r);
            Look.least(mill, r + 1);
        }
        for (int r = 0; r < 16; r += 2) {
            Look.holds("the greatest", mill, r, GREATEST);
            Look.holds("the least", mill, r + 1, LEAST);
        }
        everyCallAtTheLimit();
    }

    /** Calls that no greatest number makes too long. */
    private static void everyCallAtTheLimit() {
        Consumer<Mill> make = x -> {
            Look.greatest(x, 0);
            Look.least(x, 1);
            Look.same("put", x.put(2, 0) & x.put(3, 1) & x.put(4, -1), true);
        };
        atTheLimit("negate the greatest", make, x -> x.negate(5, 0), LEAST);
        atTheLimit("negate the least", make, x -> x.negate(5, 1), GREATEST);
        atTheLimit("the greatest + 0", make, x -> x.add(5, 0, 2), GREATEST);
        atTheLimit("0 + the least", make, x -> x.add(5, 2, 1), LEAST);
        atTheLimit("the greatest + -1", make, x -> x.add(5, 0, 4), GREATEST.subtract(ONE));
        atTheLimit("0 - the greatest", make, x -> x.take(5, 2, 0), LEAST);
        atTheLimit("the least - -1", make, x -> x.take(5, 1, 4), LEAST.add(ONE));
        atTheLimit("the greatest * -1", make, x -> x.times(5, 0, 4), LEAST);
        atTheLimit("the least * -1", make, x -> x.times(5, 4, 1), GREATEST);
        atTheLimit("the greatest / -1", make, x -> x.divide(5, 6, 0, 4, true), LEAST);
        atTheLimit("the least / -1", make, x -> x.divide(5, 6, 1, 4, false), GREATEST);
        atTheLimit("the greatest by shift 0", make, x -> x.shift(5, 0, 0), GREATEST);
        atTheLimit("the least by shift 0", make, x -> x.shift(5, 1, 0), LEAST);
        atTheLimit("the greatest to 1", make, x -> x.power(5, 0, 1), GREATEST);
        atTheLimit("the least to 1", make, x -> x.power(5, 1, 1), LEAST);
        atTheLimit("common of the least and 0", make, x -> x.common(5, 1, 2), GREATEST);
        atTheLimit("-1 by the greatest", make, x -> x.inverse(5, 4, 0), GREATEST.subtract(ONE));
        atTheLimit("-1 to 1 by the greatest", make, x -> x.modulo(5, 4, 3, 0), GREATEST.subtract(ONE));
        atTheLimit("the greatest or 0", make, x -> x.logic(5, 0, 2, 1), GREATEST);
        atTheLimit("the least or 0", make, x -> x.logic(5, 2, 1, 1), LEAST);
        atTheLimit("bit 65535 of the greatest to 1", make, x -> x.change(5, 0, 65535, 1), GREATEST);
        atTheLimit("bit 65535 of the least to 0", make, x -> x.change(5, 1, 65535, 0), LEAST);
    }

    private static void atTheLimit(String what, Consumer<Mill> make, Predicate<Mill> call, BigInteger want) {
        Mill mill = Look.filled(make);
        Look.done(what, call.test(mill), mill, 5, want);
    }

    private static void size() {
        Look.sentence("Its SIZE is its distance from 0.");
        Mill mill = new Mill();
        Look.same("put", mill.put(0, Long.MIN_VALUE) & mill.put(1, -1), true);
        Look.done("-2^63's size is 2^63", mill.push(0, 0), mill, 0, Due.two(127).negate());
        Look.done("-1's size is 1", mill.push(1, 0), mill, 1, Due.two(64).negate());
    }

    private static void bitsNotBelow() {
        Look.sentence("those of one that is not below 0 are as usual, 0 from some place on");
        Mill mill = Look.filled(x -> {
            Look.values(x, 0, 1, 0x80000000L, Long.MAX_VALUE);
            Look.greatest(x, 4);
        });
        int[][] rows = {{0, 0, 0}, {0, 1, 0}, {1, 0, 1}, {1, 1, 0}, {2, 0, Integer.MIN_VALUE}, {2, 1, 0}, {3, 0, -1}, {3, 1, Integer.MAX_VALUE},
            {3, 2, 0}, {4, 0, -1}, {4, 2047, -1}, {4, 2048, 0}, {4, 2049, 0}, {4, 1 << 26, 0}, {4, 1 << 27, 0}, {4, Integer.MAX_VALUE, 0}};
        checkWords(mill, rows);
    }

    private static void bitsBelow() {
        Look.sentence("those of one below 0, -x, are those of x - 1 turned over, 1 from some place on.");
        Mill mill = Look.filled(x -> {
            Look.values(x, -1, -2, -0x80000000L, -0x100000000L, Long.MIN_VALUE);
            Look.least(x, 5);
            Look.shifted(x, 6, -1, 64);
            Look.shifted(x, 7, -1, 65535);
        });
        int[][] rows = {{0, 0, -1}, {0, 1, -1}, {1, 0, -2}, {1, 1, -1}, {2, 0, Integer.MIN_VALUE}, {2, 1, -1}, {3, 0, 0}, {3, 1, -1},
            {4, 0, 0}, {4, 1, Integer.MIN_VALUE}, {4, 2, -1}, {5, 0, 1}, {5, 1, 0}, {5, 2047, 0}, {5, 2048, -1}, {5, 2049, -1}, {5, 1 << 26, -1},
            {5, 1 << 27, -1}, {5, Integer.MAX_VALUE, -1}, {6, 0, 0}, {6, 1, 0}, {6, 2, -1}, {6, 3, -1}, {7, 2046, 0}, {7, 2047, Integer.MIN_VALUE},
            {7, 2048, -1}};
        checkWords(mill, rows);
    }

    private static void checkWords(Mill mill, int[][] rows) {
        for (int[] row : rows) {
            Look.same("word " + row[1] + " of " + row[0], mill.word(row[0], row[1]), row[2]);
        }
    }

    private static void words() {
        Look.sentence("WORD k of it, k from 0 on, are its bits 32 * k to 32 * k + 31.");
        for (int place : new int[] {0, 1, 31, 32, 33, 63, 64, 65503, 65504, 65534, 65535}) {
            Mill mill = new Mill();
            Look.shifted(mill, 0, 1, place);
            Look.same("the word of bit " + place, mill.word(0, place / 32), 1 << place % 32);
            Look.same("the word above bit " + place, mill.word(0, place / 32 + 1), 0);
            Look.same("the word below bit " + place, mill.word(0, place / 32 - 1), 0);
            Look.same("negate", mill.negate(0, 0), true);
            Look.same("the word of bit " + place + " below 0", mill.word(0, place / 32), -1 << place % 32);
            Look.same("the word above bit " + place + " below 0", mill.word(0, place / 32 + 1), -1);
            Look.same("the word below bit " + place + " below 0", mill.word(0, place / 32 - 1), 0);
        }
    }

    private static void answersTrue() {
        Look.sentence("A call that puts numbers into registers answers true when that is done.");
        for (Call call : CALLS) {
            Look.same(call.name, call.doing.on(Look.filled(), choice(call, 1)), true);
        }
        // Done, too, where the number that is put is the one that was there.
        Mill mill = new Mill();
        Look.done("0 over 0", mill.put(0, 0), mill, 0, 0);
        Look.done("0 pushed onto 0", mill.push(0, 0), mill, 0, 0);
        Look.done("-0", mill.negate(0, 0), mill, 0, 0);
        Look.done("0 shifted", mill.shift(0, 0, 1), mill, 0, 0);
        Look.done("a bit that is 0 to 0", mill.change(0, 0, 0, 0), mill, 0, 0);
        Look.done("nothing common", mill.common(0, 0, 0), mill, 0, 0);
    }

    private static void noRegister() {
        Look.sentence("It is refused, changes nothing and answers false when a register is none of these");
        for (Call call : CALLS) {
            for (int none : Look.NONE) {
                for (int j = 0; j < call.registers(); j++) {
                    int[] r = choice(call, 3);
                    r[j] = none;
                    Look.refused(call.name + " with " + none + " at " + j, x -> { }, x -> call.doing.on(x, r));
                }
                int[] all = new int[call.registers()];
                Arrays.fill(all, none);
                Look.refused(call.name + " with " + none + " alone", x -> { }, x -> call.doing.on(x, all));
            }
        }
    }

    private static void sameRegisters() {
        Look.sentence("two registers into which it puts something are the same");
        for (int r = 0; r < 16; r++) {
            int both = r;
            Look.refused("divide into " + r + " twice, cut", x -> { }, x -> x.divide(both, both, 9, 4, false));
            Look.refused("divide into " + r + " twice, down", x -> { }, x -> x.divide(both, both, 9, 4, true));
            Look.refused("divide " + r + " into itself twice", x -> { }, x -> x.divide(both, both, both, both, true));
        }
        Look.refused("where quotient and rest are alike", x -> Look.values(x, 12, 5), x -> x.divide(2, 2, 0, 1, false));
        Look.refused("where quotient and rest are 0", x -> Look.values(x, 0, 5), x -> x.divide(2, 2, 0, 1, true));
        Look.refused("where b is 0, too", x -> Look.values(x, 5, 0), x -> x.divide(2, 2, 0, 1, true));
        Look.refused("where it is no register, too", x -> { }, x -> x.divide(16, 16, 0, 1, true));
    }

    private static void tooLong() {
        Look.sentence("the SIZE of a number to be put would be above 2^65536 - 1 (push, add, take, times, shift)");
        Consumer<Mill> make = x -> {
            Look.greatest(x, 0);
            Look.least(x, 1);
            Look.same("put", x.put(2, 1) & x.put(3, -1) & x.put(4, 2), true);
            Look.shifted(x, 5, 1, 65472);
            Look.shifted(x, 6, -1, 65472);
            Look.shifted(x, 7, 1, 65535);
            Look.shifted(x, 8, -1, 65535);
            Look.shifted(x, 9, 1, 32768);
        };
        Look.refused("2^65472 * 2^64", make, x -> x.push(5, 0));
        Look.refused("-2^65472 * 2^64", make, x -> x.push(6, 0));
        Look.refused("-2^65472 * 2^64 - all", make, x -> x.push(6, -1));
        Look.refused("push onto the greatest", make, x -> x.push(0, 0));
        Look.refused("the greatest + 1", make, x -> x.add(10, 0, 2));
        Look.refused("1 + the greatest", make, x -> x.add(0, 2, 0));
        Look.refused("the least + -1", make, x -> x.add(10, 1, 3));
        Look.refused("2^65535 + 2^65535", make, x -> x.add(7, 7, 7));
        Look.refused("-2^65535 + -2^65535", make, x -> x.add(8, 8, 8));
        Look.refused("the least + the least", make, x -> x.add(10, 1, 1));
        Look.refused("the greatest - -1", make, x -> x.take(0, 0, 3));
        Look.refused("the least - 1", make, x -> x.take(1, 1, 2));
        Look.refused("-1 - the greatest", make, x -> x.take(10, 3, 0));
        Look.refused("2^65535 - -2^65535", make, x -> x.take(10, 7, 8));
        Look.refused("-2^65535 - 2^65535", make, x -> x.take(10, 8, 7));
        Look.refused("2^32768 * 2^32768", make, x -> x.times(9, 9, 9));
        Look.refused("2^65535 * 2", make, x -> x.times(7, 7, 4));
        Look.refused("2 * -2^65535", make, x -> x.times(8, 4, 8));
        Look.refused("the greatest * the least", make, x -> x.times(10, 0, 1));
        Look.refused("2^65535 shifted by 1", make, x -> x.shift(7, 7, 1));
        Look.refused("-2^65535 shifted by 1", make, x -> x.shift(10, 8, 1));
        Look.refused("1 shifted by 65536", make, x -> x.shift(10, 2, 65536));
        Look.refused("-1 shifted by 65536", make, x -> x.shift(3, 3, 65536));
        Look.refused("1 shifted by the most", make, x -> x.shift(10, 2, Integer.MAX_VALUE));
        Look.refused("the least shifted by 1", make, x -> x.shift(10, 1, 1));
    }

    private static void tooLongByBits() {
        Look.sentence("the SIZE of a number to be put would be above 2^65536 - 1 (logic, change)");
        Consumer<Mill> make = x -> {
            Look.greatest(x, 0);
            Look.least(x, 1);
            Look.same("put", x.put(2, 1) & x.put(3, -1) & x.put(4, -2), true);
            Look.shifted(x, 5, -1, 65535);
            Look.shifted(x, 6, 1, 65535);
            Look.ones(x, 7, 65535);
        };
        Look.refused("both: -2^65536", make, x -> x.logic(10, 1, 4, 0));
        Look.refused("both in place: -2^65536", make, x -> x.logic(1, 4, 1, 0));
        Look.refused("just one: the greatest turned over", make, x -> x.logic(0, 0, 3, 2));
        Look.refused("just one: -1 and the greatest", make, x -> x.logic(10, 3, 0, 2));
        Look.refused("just one: the least and 1", make, x -> x.logic(10, 1, 2, 2));
        Look.refused("just one: -2^65535 and 2^65535", make, x -> x.logic(10, 5, 6, 2));
        Look.refused("has not: the least without 1", make, x -> x.logic(1, 1, 2, 3));
        Look.refused("has not: -1 without the greatest", make, x -> x.logic(3, 3, 0, 3));
        Look.refused("has not: -2^65535 without 2^65535", make, x -> x.logic(10, 5, 6, 3));
        Mill mill = Look.filled(make);
        Look.done("one bit less: -1 without 2^65535 - 1", mill.logic(10, 3, 7, 3), mill, 10, Due.two(65535).negate());
        Look.done("one bit less: just one of -1 and 2^65535", mill.logic(10, 3, 6, 2), mill, 10, Due.two(65535).negate().subtract(ONE));

        Look.refused("bit 65536 of the greatest to 1", make, x -> x.change(0, 0, 65536, 1));
        Look.refused("bit 65536 of 1 over", make, x -> x.change(10, 2, 65536, 2));
        Look.refused("bit 65536 of -1 to 0", make, x -> x.change(10, 3, 65536, 0));
        Look.refused("bit 65536 of the least over", make, x -> x.change(1, 1, 65536, 2));
        Look.refused("bit 0 of the least to 0", make, x -> x.change(1, 1, 0, 0));
        Look.refused("bit 0 of the least over", make, x -> x.change(10, 1, 0, 2));
        Look.refused("bit 65535 of -2^65535 to 0", make, x -> x.change(5, 5, 65535, 0));
        Look.refused("bit 65535 of -2^65535 over", make, x -> x.change(10, 5, 65535, 2));
        Look.done("bit 65535 of -1 to 0", mill.change(10, 3, 65535, 0), mill, 10, Due.two(65535).negate().subtract(ONE));
        Look.done("bit 65535 of 2^65535 - 1 over", mill.change(10, 7, 65535, 2), mill, 10, GREATEST);
    }

    private static void tooLongByPowers() {
        Look.sentence("the SIZE of a number to be put would be above 2^65536 - 1 (power)");
        Consumer<Mill> make = x -> {
            Look.values(x, 2, -2, 3, 4, 0, 0, 0);
            Look.shifted(x, 4, 1, 32768);
            Look.shifted(x, 5, -1, 32768);
            Look.greatest(x, 6);
        };
        Look.refused("2 to 65536", make, x -> x.power(10, 0, 65536));
        Look.refused("-2 to 65536", make, x -> x.power(1, 1, 65536));
        Look.refused("-2 to 65537", make, x -> x.power(10, 1, 65537));
        Look.refused("3 to 41349", make, x -> x.power(2, 2, 41349));
        // Too long not by its last factor, but by a square before it.
        Look.refused("3 to 41350", make, x -> x.power(10, 2, 41350));
        Look.refused("3 to 65535", make, x -> x.power(10, 2, 65535));
        Look.refused("4 to 32768", make, x -> x.power(10, 3, 32768));
        Look.refused("2^32768 to 2", make, x -> x.power(4, 4, 2));
        Look.refused("-2^32768 to 2", make, x -> x.power(10, 5, 2));
        Look.refused("the greatest to 2", make, x -> x.power(10, 6, 2));
        Look.refused("2 to the most", make, x -> x.power(10, 0, Integer.MAX_VALUE));
        Look.refused("the greatest to the most", make, x -> x.power(6, 6, Integer.MAX_VALUE));
        Mill mill = Look.filled(make);
        Look.done("2 to 65535", mill.power(10, 0, 65535), mill, 10, Due.two(65535));
        Look.done("-2 to 65535", mill.power(10, 1, 65535), mill, 10, Due.two(65535).negate());
        Look.done("3 to 41348", mill.power(10, 2, 41348), mill, 10, BigInteger.valueOf(3).pow(41348));
        Look.done("4 to 32767", mill.power(10, 3, 32767), mill, 10, Due.two(65534));
    }

    private static void takenFirst() {
        Look.sentence("A register out of which it takes a number may be one into which it puts one: all are taken first.");
        for (Call call : CALLS) {
            for (int tuple = 0; tuple < 81; tuple++) {
                int[] r = {tuple % 3, tuple / 3 % 3, tuple / 9 % 3, tuple / 27};
                boolean isNew = call.registers() == 4 || tuple < (call.registers() == 3 ? 27 : call.registers() == 2 ? 9 : 3);
                boolean isAllowed = call.puts < 2 || r[0] != r[1];
                if (isNew && isAllowed) {
                    likeApart(call, r, x -> Look.values(x, 91, 37, 5));
                    likeApart(call, r, x -> Look.values(x, -91, 12, -7));
                    likeApart(call, r, x -> Look.values(x, 12, -1000003, 18));
                    likeApart(call, r, TermsTests::longNumbers);
                }
            }
        }
    }

    private static void longNumbers(Mill mill) {
        boolean done = mill.spread(0, 0x9E3779B97F4A7C15L, 7) & mill.spread(1, 0x123456789ABCDEFL, 4) & mill.spread(2, -0x0F0F0F0F0F0F0F1L, 5);
        Look.same("long numbers", done & mill.negate(2, 2), true);
    }

    /** The call does the same as one that puts into registers apart from those that it takes out of. */
    private static void likeApart(Call call, int[] r, Consumer<Mill> make) {
        Mill mill = Look.filled(make);
        Mill apart = Look.filled(make);
        int[] away = r.clone();
        for (int i = 0; i < call.puts; i++) {
            away[i] = 14 + i;
        }
        // These take out of the register that they put into, so that it must hold the same.
        if (call.takes == 0) {
            Look.same("a copy", apart.negate(14, r[0]) && apart.negate(14, 14), true);
        }
        String what = call.name + " with " + Arrays.toString(r);
        boolean done = call.doing.on(mill, r);
        Look.same(what, done, call.doing.on(apart, away));
        for (int k = 0; k < 3; k++) {
            int from = k;
            for (int i = 0; i < call.puts; i++) {
                from = done && r[i] == k ? 14 + i : from;
            }
            Look.same(what + ", register " + k, Look.of(mill, k), Look.of(apart, from));
        }
    }

    private static void lastCall() {
        Look.sentence("An object is used for at most 512 calls after it has been made");
        Mill mill = new Mill();
        boolean done = mill.put(0, 1);
        for (int call = 2; call <= 511; call++) {
            done &= mill.add(0, 0, 0);
        }
        Look.same("the 512th call", mill.length(0), 511);
        Look.same("all before", done, true);
        mill = new Mill();
        done = mill.put(0, -1);
        for (int call = 2; call <= 511; call++) {
            done &= mill.push(0, call);
        }
        Look.same("the 512th call after pushes", mill.length(0), 64 * 510 + 1);
        Look.same("all pushes before", done, true);
    }
}
