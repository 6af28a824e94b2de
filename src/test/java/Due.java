import java.math.BigInteger;

/** What the tests share: it counts the answers that are not as due, and reads and writes registers. */
final class Due {
    static final int MOST_BITS = 65536;
    static final BigInteger ONE = BigInteger.ONE;
    static final BigInteger GREATEST = ONE.shiftLeft(MOST_BITS).subtract(ONE);

    private static int right = 0;
    private static int wrong = 0;

    private Due() {
    }

    static void same(String what, Object got, Object want) {
        if (got.equals(want)) {
            right++;
            return;
        }
        wrong++;
        if (wrong <= 50) {
            System.out.println(what + " answered " + shorten(got) + ", due is " + shorten(want));
        }
    }

    static int wrongs() {
        return wrong;
    }

    /** Ends the program with 1 if one answer was not as due. */
    static void end(String test) {
        System.out.println(test + ": " + right + " answers as due, " + wrong + " not");
        if (wrong != 0 || right == 0) {
            System.exit(1);
        }
    }

    private static String shorten(Object o) {
        String s = o.toString();
        return s.length() <= 200 ? s : s.substring(0, 80) + " .. (" + s.length() + " characters) .. " + s.substring(s.length() - 80);
    }

    /** 2^n. */
    static BigInteger two(int n) {
        return ONE.shiftLeft(n);
    }

    /** The number in r, read by its words up to one that is all sign. */
    static BigInteger read(Mill mill, int r) {
        int words = Math.max(0, Math.min(mill.length(r), MOST_BITS)) / 32 + 2;
        byte[] bytes = new byte[4 * words];
        for (int k = 0; k < words; k++) {
            int word = mill.word(r, k);
            for (int i = 0; i < 4; i++) {
                bytes[bytes.length - 1 - 4 * k - i] = (byte) (word >> 8 * i);
            }
        }
        return new BigInteger(bytes);
    }

    /** Puts a number into r, where register 15 is 0 and stays so. Runs of like 64 bits take few calls. */
    static void write(Mill mill, int r, BigInteger value) {
        BigInteger size = value.abs();
        boolean done = mill.put(r, 0);
        int left = (size.bitLength() + 63) / 64;
        while (left > 0) {
            long bits = size.shiftRight(64 * (left - 1)).longValue();
            int like = 1;
            while (like < left && size.shiftRight(64 * (left - 1 - like)).longValue() == bits) {
                like++;
            }
            left -= like;
            done &= like < 5 ? pushAll(mill, r, bits, like) : appendSpread(mill, r, bits, like);
        }
        if (value.signum() < 0) {
            done &= mill.negate(r, r);
        }
        same("writing a number", done, true);
    }

    private static boolean pushAll(Mill mill, int r, long bits, int n) {
        boolean done = true;
        for (int i = 0; i < n; i++) {
            done &= mill.push(r, bits);
        }
        return done;
    }

    private static boolean appendSpread(Mill mill, int r, long bits, int n) {
        return mill.shift(r, r, 64 * n) && mill.spread(15, bits, n) && mill.add(r, r, 15) && mill.put(15, 0);
    }

    /** A new object with these numbers in its first registers. */
    static Mill with(BigInteger... values) {
        Mill mill = new Mill();
        for (int r = 0; r < values.length; r++) {
            write(mill, r, values[r]);
        }
        return mill;
    }

    static Mill with(long... values) {
        Mill mill = new Mill();
        for (int r = 0; r < values.length; r++) {
            same("put", mill.put(r, values[r]), true);
        }
        return mill;
    }
}
