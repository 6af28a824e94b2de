import java.math.BigInteger;

/** What the tests share: it counts the answers that are not as due, and reads and writes registers. */
final class Due {
    static final BigInteger ONE = BigInteger.ONE;
    static final BigInteger LIMIT = ONE.shiftLeft(65536);
    static final BigInteger GREATEST = LIMIT.subtract(ONE);

    private static int right = 0;
    private static int wrong = 0;

    private Due() {
    }

    static void same(String what, Object got, Object want) {
        if (got.equals(want)) {
            right++;
            return;
        }
        wrong++;
        if (wrong <= 50) {
            System.out.println(what + " answered " + shorten(got) + ", due is " + shorten(want));
        }
    }

    static int wrongs() {
        return wrong;
    }

    /** Ends the program with 1 if one answer was not as due. */
    static void end(String test) {
        System.out.println(test + ": " + right + " answers as due, " + wrong + " not");
        if (wrong != 0 || right == 0) {
            System.exit(1);
        }
    }

    private static String shorten(Object o) {
        String s = o.toString();
        return s.length() <= 200 ? s : s.substring(0, 80) + " .. (" + s.length() + " characters) .. " + s.substring(s.length() - 80);
    }

    /** 2^n. */
    static BigInteger two(int n) {
        return ONE.shiftLeft(n);
    }

    /** The number in r, read by its words up to one that is all sign. */
    static BigInteger read(SignedMill mill, int r) {
        return read(mill, r, 2050);
    }

    static BigInteger read(SignedMill mill, int r, int words) {
        byte[] bytes = new byte[4 * words];
        for (int k = 0; k < words; k++) {
            int word = mill.word(r, k);
            for (int i = 0; i < 4; i++) {
                bytes[bytes.length - 1 - 4 * k - i] = (byte) (word >> 8 * i);
            }
        }
        return new BigInteger(bytes);
    }

    /** Puts a number into r by put, push and, for its sign, negate. */
    static void write(SignedMill mill, int r, BigInteger value) {
        BigInteger size = value.abs();
        boolean done = mill.put(r, 0);
        for (int k = (size.bitLength() + 63) / 64 - 1; k >= 0; k--) {
            done &= mill.push(r, size.shiftRight(64 * k).longValue());
        }
        if (value.signum() < 0) {
            done &= mill.negate(r, r);
        }
        same("writing a number", done, true);
    }

    /** A new object with these numbers in its first registers. */
    static SignedMill with(BigInteger... values) {
        SignedMill mill = new SignedMill();
        for (int r = 0; r < values.length; r++) {
            write(mill, r, values[r]);
        }
        return mill;
    }

    static SignedMill with(long... values) {
        SignedMill mill = new SignedMill();
        for (int r = 0; r < values.length; r++) {
            same("put", mill.put(r, values[r]), true);
        }
        return mill;
    }
}
