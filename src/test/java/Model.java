import java.math.BigInteger;
import java.util.Arrays;

/** The document said again over BigInteger, as plainly as can be: what SignedMill is compared with. */
final class Model {
    private static final BigInteger ZERO = BigInteger.ZERO;
    private static final BigInteger ONE = BigInteger.ONE;
    private static final BigInteger MASK64 = ONE.shiftLeft(64).subtract(ONE);

    final BigInteger[] registers = new BigInteger[16];

    Model() {
        Arrays.fill(registers, ZERO);
    }

    private static boolean none(int... rs) {
        for (int r : rs) {
            if (r < 0 || r > 15) {
                return true;
            }
        }
        return false;
    }

    private boolean set(int d, BigInteger v) {
        if (v.abs().bitLength() > 65536) {
            return false;
        }
        registers[d] = v;
        return true;
    }

    private static BigInteger unsigned(long bits) {
        return BigInteger.valueOf(bits).and(MASK64);
    }

    boolean put(int r, long v) {
        return !none(r) && set(r, BigInteger.valueOf(v));
    }

    boolean push(int r, long bits) {
        if (none(r)) {
            return false;
        }
        BigInteger size = registers[r].abs().shiftLeft(64).add(unsigned(bits));
        return set(r, registers[r].signum() < 0 ? size.negate() : size);
    }

    boolean spread(int r, long bits, int n) {
        if (none(r) || n < 0 || n > 1024) {
            return false;
        }
        BigInteger sum = ZERO;
        for (int k = 0; k < n; k++) {
            sum = sum.shiftLeft(64).add(unsigned(bits));
        }
        return set(r, sum);
    }

    boolean negate(int d, int a) {
        return !none(d, a) && set(d, registers[a].negate());
    }

    boolean add(int d, int a, int b) {
        return !none(d, a, b) && set(d, registers[a].add(registers[b]));
    }

    boolean take(int d, int a, int b) {
        return !none(d, a, b) && set(d, registers[a].subtract(registers[b]));
    }

    boolean times(int d, int a, int b) {
        return !none(d, a, b) && set(d, registers[a].multiply(registers[b]));
    }

    boolean divide(int q, int r, int a, int b, boolean down) {
        if (none(q, r, a, b) || q == r || registers[b].signum() == 0) {
            return false;
        }
        BigInteger dividend = registers[a];
        BigInteger divisor = registers[b];
        BigInteger quotient = dividend.divide(divisor);
        boolean isExact = quotient.multiply(divisor).equals(dividend);
        if (down && !isExact && dividend.signum() != divisor.signum()) {
            quotient = quotient.subtract(ONE);
        }
        registers[q] = quotient;
        registers[r] = dividend.subtract(quotient.multiply(divisor));
        return true;
    }

    boolean logic(int d, int a, int b, int how) {
        if (none(d, a, b) || how < 0 || how > 3) {
            return false;
        }
        BigInteger x = registers[a];
        BigInteger y = registers[b];
        return set(d, how == 0 ? x.and(y) : how == 1 ? x.or(y) : how == 2 ? x.xor(y) : x.andNot(y));
    }

    boolean shift(int d, int a, int n) {
        if (none(d, a)) {
            return false;
        }
        if (registers[a].signum() == 0) {
            return set(d, ZERO);
        }
        if (n > 65536) {
            return false;
        }
        return set(d, n >= 0 ? registers[a].shiftLeft(n) : registers[a].shiftRight(n < -70000 ? 70000 : -n));
    }

    boolean change(int d, int a, int k, int how) {
        if (none(d, a) || k < 0 || how < 0 || how > 2) {
            return false;
        }
        BigInteger x = registers[a];
        if (how == (x.testBit(k) ? 1 : 0)) {
            return set(d, x);
        }
        return k < 70000 && set(d, x.flipBit(k));
    }

    boolean power(int d, int a, int n) {
        if (none(d, a) || n < 0) {
            return false;
        }
        BigInteger x = registers[a];
        if (x.abs().bitLength() <= 1) {
            return set(d, n == 0 ? ONE : n % 2 == 0 ? x.abs() : x);
        }
        return n <= 65536 && (x.abs().bitLength() - 1L) * n <= 65536 && set(d, x.pow(n));
    }

    boolean common(int d, int a, int b) {
        return !none(d, a, b) && set(d, registers[a].gcd(registers[b]));
    }

    boolean inverse(int d, int a, int m) {
        if (none(d, a, m) || registers[m].signum() < 1 || !registers[a].gcd(registers[m]).equals(ONE)) {
            return false;
        }
        return set(d, registers[a].modInverse(registers[m]));
    }

    boolean modulo(int d, int a, int e, int m) {
        if (none(d, a, e, m) || registers[m].signum() < 1) {
            return false;
        }
        long bits = registers[m].bitLength();
        if (registers[e].abs().bitLength() * bits * bits > 4294967296L) {
            return false;
        }
        if (registers[e].signum() < 0 && !registers[a].gcd(registers[m]).equals(ONE)) {
            return false;
        }
        return set(d, registers[a].modPow(registers[e], registers[m]));
    }

    int compare(int a, int b) {
        return none(a, b) ? -2 : registers[a].compareTo(registers[b]);
    }

    int sign(int r) {
        return none(r) ? -2 : registers[r].signum();
    }

    int length(int r) {
        return none(r) ? -1 : registers[r].bitLength();
    }

    int ones(int r) {
        return none(r) ? -1 : registers[r].bitCount();
    }

    int lowest(int r) {
        return none(r) ? -1 : registers[r].getLowestSetBit();
    }

    int word(int r, int k) {
        if (none(r) || k < 0) {
            return 0;
        }
        return k > 3000 ? registers[r].signum() < 0 ? -1 : 0 : registers[r].shiftRight(32 * k).intValue();
    }
}
