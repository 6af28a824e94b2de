import java.util.Arrays;

/** Whole numbers with a sign in sixteen registers. The document's promises say what each call does. */
public final class SignedMill {
    private static final int REGISTERS = 16;
    private static final int MOST_BITS = 65536;
    private static final int MOST_SPREAD = 1024;
    private static final long MOST_MODULO_WORK = 1L << 32;

    private static final int DIGIT_BITS = 32;
    private static final int PLACE_MASK = DIGIT_BITS - 1;
    private static final long DIGIT = 0xFFFFFFFFL;

    private final Whole[] sizes = new Whole[REGISTERS];
    private final boolean[] minus = new boolean[REGISTERS];

    // Answers are made here and not in a register, since a refused call changes none
    // and a call may read the register that it writes.
    private final Whole result = new Whole();
    private final Whole other = new Whole();
    private final Whole base = new Whole();
    private final Divider divider = new Divider();
    private final Euclid euclid = new Euclid();

    public SignedMill() {
        for (int r = 0; r < REGISTERS; r++) {
            sizes[r] = new Whole();
        }
    }

    public boolean put(int r, long v) {
        if (!isRegister(r)) {
            return false;
        }
        // The lowest long is its own negative, and without a sign that is its size.
        result.load(v < 0 ? -v : v);
        return keep(r, v < 0);
    }

    public boolean push(int r, long bits) {
        if (!isRegister(r)) {
            return false;
        }
        other.load(bits);
        result.raise(sizes[r], Long.SIZE);
        result.sum(result, other);
        return keep(r, minus[r]);
    }

    public boolean spread(int r, long bits, int n) {
        if (!isRegister(r) || n < 0 || n > MOST_SPREAD) {
            return false;
        }
        result.repeat(bits, n);
        return keep(r, false);
    }

    public boolean negate(int d, int a) {
        if (!areRegisters(d, a)) {
            return false;
        }
        result.copy(sizes[a]);
        return keep(d, !minus[a]);
    }

    public boolean add(int d, int a, int b) {
        if (!areRegisters(d, a) || !isRegister(b)) {
            return false;
        }
        return keepSum(d, a, sizes[b], minus[b]);
    }

    public boolean take(int d, int a, int b) {
        if (!areRegisters(d, a) || !isRegister(b)) {
            return false;
        }
        return keepSum(d, a, sizes[b], !minus[b]);
    }

    public boolean times(int d, int a, int b) {
        if (!areRegisters(d, a) || !isRegister(b)) {
            return false;
        }
        if (isProductTooLong(sizes[a], sizes[b])) {
            return false;
        }
        result.product(sizes[a], sizes[b]);
        return keep(d, minus[a] != minus[b]);
    }

    public boolean divide(int q, int r, int a, int b, boolean down) {
        if (!areRegisters(q, r) || !areRegisters(a, b)) {
            return false;
        }
        if (q == r || sizes[b].isZero()) {
            return false;
        }
        boolean quotientBelow = minus[a] != minus[b];
        boolean restBelow = minus[a];
        divider.run(sizes[a], sizes[b]);
        if (down && quotientBelow && !divider.rest.isZero()) {
            other.load(1);
            divider.quotient.sum(divider.quotient, other);
            divider.rest.difference(sizes[b], divider.rest);
            restBelow = minus[b];
        }
        // Neither can be too long: a rest is smaller than b, and a quotient grows
        // by 1 only where b's size is 2 or more.
        settle(q, divider.quotient, quotientBelow);
        settle(r, divider.rest, restBelow);
        return true;
    }

    public boolean logic(int d, int a, int b, int how) {
        if (!areRegisters(d, a) || !isRegister(b) || how < 0 || how > 3) {
            return false;
        }
        int n = Math.max(sizes[a].count, sizes[b].count) + 1;
        int firstA = sizes[a].firstDigit();
        int firstB = sizes[b].firstDigit();
        result.room(n);
        for (int k = 0; k < n; k++) {
            result.digits[k] = join(endlessDigit(a, k, firstA), endlessDigit(b, k, firstB), how);
        }
        // The highest of these digits lies above both numbers, so it is all sign.
        boolean below = result.digits[n - 1] != 0;
        if (below) {
            result.turnOver(n);
        } else {
            result.trim(n);
        }
        return keep(d, below);
    }

    public boolean shift(int d, int a, int n) {
        if (!areRegisters(d, a)) {
            return false;
        }
        if (n > 0) {
            return shiftUp(d, a, n);
        }
        // Below this all bits are gone already, and -n might not be an int.
        return shiftDown(d, a, n < -MOST_BITS ? MOST_BITS : -n);
    }

    public boolean change(int d, int a, int k, int how) {
        if (!areRegisters(d, a) || k < 0 || how < 0 || how > 2) {
            return false;
        }
        long digit = endlessDigit(a, k / DIGIT_BITS, sizes[a].firstDigit());
        boolean isOne = (digit >>> (k & PLACE_MASK) & 1) != 0;
        if (how == (isOne ? 1 : 0)) {
            result.copy(sizes[a]);
            return keep(d, minus[a]);
        }
        if (k >= MOST_BITS) {
            return false;
        }
        other.load(1);
        other.raise(other, k);
        return keepSum(d, a, other, isOne);
    }

    public boolean power(int d, int a, int n) {
        if (!areRegisters(d, a) || n < 0) {
            return false;
        }
        return findPower(sizes[a], n) && keep(d, minus[a] && (n & 1) != 0);
    }

    public boolean common(int d, int a, int b) {
        if (!areRegisters(d, a) || !isRegister(b)) {
            return false;
        }
        euclid.run(sizes[a], sizes[b], false);
        result.copy(euclid.x);
        return keep(d, false);
    }

    public boolean inverse(int d, int a, int m) {
        if (!areRegisters(d, a) || !isModulus(m)) {
            return false;
        }
        return findInverse(a, m) && keep(d, false);
    }

    public boolean modulo(int d, int a, int e, int m) {
        if (!areRegisters(d, a) || !isRegister(e) || !isModulus(m)) {
            return false;
        }
        long modulusBits = sizes[m].bits();
        if (sizes[e].bits() * modulusBits * modulusBits > MOST_MODULO_WORK) {
            return false;
        }
        if (!minus[e]) {
            reduce(a, m);
        } else if (!findInverse(a, m)) {
            return false;
        }
        base.copy(result);
        findPowerByModulus(sizes[e], sizes[m]);
        return keep(d, false);
    }

    public int compare(int a, int b) {
        if (!areRegisters(a, b)) {
            return -2;
        }
        if (minus[a] != minus[b]) {
            return minus[a] ? -1 : 1;
        }
        int bySize = sizes[a].against(sizes[b]);
        return minus[a] ? -bySize : bySize;
    }

    public int sign(int r) {
        if (!isRegister(r)) {
            return -2;
        }
        if (sizes[r].isZero()) {
            return 0;
        }
        return minus[r] ? -1 : 1;
    }

    public int length(int r) {
        if (!isRegister(r)) {
            return -1;
        }
        int bits = sizes[r].bits();
        // Below 0 the bits are those of the size less 1, which is shorter
        // just when the size is a power of two.
        boolean shorter = minus[r] && sizes[r].lowestOne() == bits - 1;
        return shorter ? bits - 1 : bits;
    }

    public int ones(int r) {
        if (!isRegister(r)) {
            return -1;
        }
        int sizeOnes = sizes[r].countOnes();
        // To take 1 from the size makes its lowest 1 a 0 and all the 0s below it 1s.
        return minus[r] ? sizeOnes - 1 + sizes[r].lowestOne() : sizeOnes;
    }

    public int lowest(int r) {
        return isRegister(r) ? sizes[r].lowestOne() : -1;
    }

    public int word(int r, int k) {
        if (!isRegister(r) || k < 0) {
            return 0;
        }
        return (int) endlessDigit(r, k, sizes[r].firstDigit());
    }

    private static boolean isRegister(int r) {
        return r >= 0 && r < REGISTERS;
    }

    private static boolean areRegisters(int r, int s) {
        return isRegister(r) && isRegister(s);
    }

    private boolean isModulus(int m) {
        return isRegister(m) && !minus[m] && !sizes[m].isZero();
    }

    /** Puts the result into d unless it is too long. */
    private boolean keep(int d, boolean below) {
        if (result.bits() > MOST_BITS) {
            return false;
        }
        settle(d, result, below);
        return true;
    }

    private void settle(int d, Whole size, boolean below) {
        sizes[d].copy(size);
        minus[d] = below && !size.isZero();
    }

    /** Puts a + (size with its sign) into d. */
    private boolean keepSum(int d, int a, Whole size, boolean below) {
        if (minus[a] == below) {
            result.sum(sizes[a], size);
            return keep(d, below);
        }
        if (sizes[a].against(size) >= 0) {
            result.difference(sizes[a], size);
            return keep(d, minus[a]);
        }
        result.difference(size, sizes[a]);
        return keep(d, below);
    }

    /** True only where the product is 2^65536 or more for certain; it keeps rows short. */
    private static boolean isProductTooLong(Whole a, Whole b) {
        return a.bits() + b.bits() > MOST_BITS + 1;
    }

    /** Digit k of r's bits without end; first is the place of the lowest digit of its size that is not 0. */
    private long endlessDigit(int r, int k, int first) {
        long digit = sizes[r].digitAt(k);
        if (!minus[r]) {
            return digit;
        }
        // Below 0 they are the size's bits turned over, plus a 1 that
        // passes on through the digits that are 0 and ends in the first other one.
        return (k <= first ? -digit : ~digit) & DIGIT;
    }

    private static long join(long a, long b, int how) {
        switch (how) {
            case 0:
                return a & b;
            case 1:
                return a | b;
            case 2:
                return a ^ b;
            default:
                return a & ~b;
        }
    }

    private boolean shiftUp(int d, int a, int n) {
        if (sizes[a].isZero()) {
            result.clear();
            return keep(d, false);
        }
        if (n > MOST_BITS - sizes[a].bits()) {
            return false;
        }
        result.raise(sizes[a], n);
        return keep(d, minus[a]);
    }

    private boolean shiftDown(int d, int a, int n) {
        boolean isCut = !sizes[a].isZero() && sizes[a].lowestOne() < n;
        result.lower(sizes[a], n);
        if (isCut && minus[a]) {
            other.load(1);
            result.sum(result, other);
        }
        return keep(d, minus[a]);
    }

    /** Leaves the product of n factors in result; false when it is too long. */
    private boolean findPower(Whole factor, int n) {
        result.load(1);
        if (factor.bits() <= 1) {
            // 0 and 1 stay short for each n, so the limit below would be wrong for them.
            if (n > 0) {
                result.copy(factor);
            }
            return true;
        }
        if ((factor.bits() - 1L) * n >= MOST_BITS) {
            return false;
        }
        for (int i = Integer.SIZE - 1 - Integer.numberOfLeadingZeros(n); i >= 0; i--) {
            if (!multiplyResult(result)) {
                return false;
            }
            if ((n >>> i & 1) != 0 && !multiplyResult(factor)) {
                return false;
            }
        }
        return true;
    }

    private boolean multiplyResult(Whole factor) {
        if (isProductTooLong(result, factor)) {
            return false;
        }
        other.product(result, factor);
        result.copy(other);
        return true;
    }

    /** Leaves in result the number from 0 to m - 1 that differs from a by a multiple of m. */
    private void reduce(int a, int m) {
        divider.run(sizes[a], sizes[m]);
        if (minus[a] && !divider.rest.isZero()) {
            result.difference(sizes[m], divider.rest);
        } else {
            result.copy(divider.rest);
        }
    }

    /** Leaves a's inverse by m in result; false when there is none. */
    private boolean findInverse(int a, int m) {
        reduce(a, m);
        euclid.run(sizes[m], result, true);
        if (euclid.x.bits() != 1) {
            return false;
        }
        if (euclid.isFactorBelow && !euclid.factorX.isZero()) {
            result.difference(sizes[m], euclid.factorX);
        } else {
            result.copy(euclid.factorX);
        }
        return true;
    }

    /** Leaves in result the base to this power by this modulus. */
    private void findPowerByModulus(Whole exponent, Whole modulus) {
        int bits = exponent.bits();
        if (bits == 0) {
            other.load(1);
            divider.run(other, modulus);
            result.copy(divider.rest);
            return;
        }
        result.copy(base);
        for (int i = bits - 2; i >= 0; i--) {
            multiplyByModulus(result, modulus);
            if (exponent.isOne(i)) {
                multiplyByModulus(base, modulus);
            }
        }
    }

    private void multiplyByModulus(Whole factor, Whole modulus) {
        other.product(result, factor);
        divider.run(other, modulus);
        result.copy(divider.rest);
    }

    /**
     * A whole number not below 0: the digits at places 0 .. count - 1, the lowest first,
     * the highest of them not 0. What stands at the places above is of no meaning.
     */
    private static final class Whole {
        private static final int FIRST_ROOM = 4;

        // A digit has 32 bits, but a long of its own: so a product of two
        // with two carries fits, and none needs a mask when it is read.
        long[] digits = new long[FIRST_ROOM];
        int count = 0;

        /** Rows grow by doubling, so that all that an object ever makes stays within twice its longest rows. */
        void room(int n) {
            if (n > digits.length) {
                digits = Arrays.copyOf(digits, Math.max(n, 2 * digits.length));
            }
        }

        /** Makes places up to n readable as 0 where they are above the number. */
        void widen(int n) {
            room(n);
            for (int i = count; i < n; i++) {
                digits[i] = 0;
            }
        }

        /** Takes the places below n, for which there must be room, as the number. */
        void trim(int n) {
            count = n;
            while (count > 0 && digits[count - 1] == 0) {
                count--;
            }
        }

        void clear() {
            count = 0;
        }

        void load(long bits) {
            digits[0] = bits & DIGIT;
            digits[1] = bits >>> DIGIT_BITS;
            trim(2);
        }

        void repeat(long bits, int n) {
            room(2 * n);
            for (int k = 0; k < n; k++) {
                digits[2 * k] = bits & DIGIT;
                digits[2 * k + 1] = bits >>> DIGIT_BITS;
            }
            trim(2 * n);
        }

        void copy(Whole from) {
            room(from.count);
            System.arraycopy(from.digits, 0, digits, 0, from.count);
            count = from.count;
        }

        boolean isZero() {
            return count == 0;
        }

        long digitAt(int k) {
            return k >= 0 && k < count ? digits[k] : 0;
        }

        boolean isOne(int place) {
            return (digitAt(place / DIGIT_BITS) >>> (place & PLACE_MASK) & 1) != 0;
        }

        /** The lowest 64 bits from this place on. */
        long bitsFrom(int place) {
            int k = place / DIGIT_BITS;
            int low = place & PLACE_MASK;
            long bits = digitAt(k) >>> low | digitAt(k + 1) << (DIGIT_BITS - low);
            // A shift by 64 would be one by 0.
            return low == 0 ? bits : bits | digitAt(k + 2) << (2 * DIGIT_BITS - low);
        }

        int bits() {
            if (count == 0) {
                return 0;
            }
            return DIGIT_BITS * count + DIGIT_BITS - Long.numberOfLeadingZeros(digits[count - 1]);
        }

        /** The place of the lowest digit that is not 0, or 0. */
        int firstDigit() {
            for (int k = 0; k < count; k++) {
                if (digits[k] != 0) {
                    return k;
                }
            }
            return 0;
        }

        int lowestOne() {
            if (count == 0) {
                return -1;
            }
            int k = firstDigit();
            return DIGIT_BITS * k + Long.numberOfTrailingZeros(digits[k]);
        }

        int countOnes() {
            int ones = 0;
            for (int k = 0; k < count; k++) {
                ones += Long.bitCount(digits[k]);
            }
            return ones;
        }

        /** -1, 0 or 1 when this is below, equal to or above b. */
        int against(Whole b) {
            if (count != b.count) {
                return count < b.count ? -1 : 1;
            }
            for (int k = count - 1; k >= 0; k--) {
                if (digits[k] != b.digits[k]) {
                    return digits[k] < b.digits[k] ? -1 : 1;
                }
            }
            return 0;
        }

        /** Becomes a + b; it may be one of them. */
        void sum(Whole a, Whole b) {
            Whole more = a.count >= b.count ? a : b;
            Whole less = a.count >= b.count ? b : a;
            int n = more.count;
            int both = less.count;
            room(n + 1);
            long carry = 0;
            for (int k = 0; k < n; k++) {
                long t = more.digits[k] + carry + (k < both ? less.digits[k] : 0);
                digits[k] = t & DIGIT;
                carry = t >>> DIGIT_BITS;
            }
            digits[n] = carry;
            trim(n + 1);
        }

        /** Becomes a - b, where b is not above a; it may be one of them. */
        void difference(Whole a, Whole b) {
            int n = a.count;
            int both = b.count;
            room(n);
            long borrow = 0;
            for (int k = 0; k < n; k++) {
                long t = a.digits[k] - borrow - (k < both ? b.digits[k] : 0);
                digits[k] = t & DIGIT;
                borrow = t >>> (Long.SIZE - 1);
            }
            trim(n);
        }

        /** Becomes a * b; it is neither of them. */
        void product(Whole a, Whole b) {
            int n = a.count + b.count;
            clear();
            widen(n);
            for (int k = 0; k < a.count; k++) {
                if (a.digits[k] != 0) {
                    addMultiple(k, a.digits[k], b);
                }
            }
            trim(n);
        }

        private void addMultiple(int place, long factor, Whole b) {
            long[] into = digits;
            long[] from = b.digits;
            int n = b.count;
            long carry = 0;
            for (int k = 0; k < n; k++) {
                long t = factor * from[k] + into[place + k] + carry;
                into[place + k] = t & DIGIT;
                carry = t >>> DIGIT_BITS;
            }
            into[place + n] = carry;
        }

        /** Becomes a * 2^n; it may be a. */
        void raise(Whole a, int n) {
            int up = n / DIGIT_BITS;
            int low = n & PLACE_MASK;
            int top = a.count;
            room(top + up + 1);
            // From the top, since a's own digits may be written over.
            for (int k = top; k >= 0; k--) {
                long high = k < top ? a.digits[k] << low : 0;
                long below = k > 0 ? a.digits[k - 1] >>> (DIGIT_BITS - low) : 0;
                digits[k + up] = (high | below) & DIGIT;
            }
            for (int k = 0; k < up; k++) {
                digits[k] = 0;
            }
            trim(top + up + 1);
        }

        /** Becomes a / 2^n, cut; it may be a. */
        void lower(Whole a, int n) {
            int down = n / DIGIT_BITS;
            int low = n & PLACE_MASK;
            int top = a.count;
            int left = Math.max(0, top - down);
            room(left);
            for (int k = 0; k < left; k++) {
                long above = k + down + 1 < top ? a.digits[k + down + 1] << (DIGIT_BITS - low) : 0;
                digits[k] = (a.digits[k + down] >>> low | above) & DIGIT;
            }
            trim(left);
        }

        /** Becomes 2^(32 * n) less what the n lowest places hold. */
        void turnOver(int n) {
            long carry = 1;
            for (int k = 0; k < n; k++) {
                long t = (~digits[k] & DIGIT) + carry;
                digits[k] = t & DIGIT;
                carry = t >>> DIGIT_BITS;
            }
            trim(n);
        }
    }

    /** Division digit by digit (Knuth's algorithm D). */
    private static final class Divider {
        final Whole quotient = new Whole();
        final Whole rest = new Whole();

        // The divisor, moved up until its highest digit is 2^31 or more:
        // then a quotient's digit that is guessed from highest digits is at most 1 too great.
        private final Whole scaled = new Whole();

        /** Neither a nor b is the quotient or the rest. Where b is 0, a is left as the rest. */
        void run(Whole a, Whole b) {
            if (b.isZero() || a.against(b) < 0) {
                quotient.clear();
                rest.copy(a);
                return;
            }
            int n = b.count;
            int places = a.count - n + 1;
            int scale = DIGIT_BITS * n - b.bits();
            scaled.raise(b, scale);
            rest.raise(a, scale);
            rest.widen(a.count + 1);
            quotient.room(places);
            for (int k = places - 1; k >= 0; k--) {
                quotient.digits[k] = takeOut(k, n);
            }
            quotient.trim(places);
            rest.trim(n);
            rest.lower(rest, scale);
        }

        /** The quotient's digit at this place, whose multiple of the divisor it takes from the rest. */
        private long takeOut(int place, int n) {
            long guess = guess(place, n);
            if (guess == 0) {
                return 0;
            }
            if (!subtract(place, n, guess)) {
                return guess;
            }
            addBack(place, n);
            return guess - 1;
        }

        private long guess(int place, int n) {
            long[] from = rest.digits;
            long top = scaled.digits[n - 1];
            long pair = from[place + n] << DIGIT_BITS | from[place + n - 1];
            long guess = DIGIT;
            if (from[place + n] < top) {
                guess = quotientOfPair(pair, top);
            }
            if (n < 2) {
                return guess;
            }
            long second = scaled.digits[n - 2];
            long third = from[place + n - 2];
            long left = pair - guess * top;
            for (int i = 0; i < 2 && left <= DIGIT; i++) {
                if (Long.compareUnsigned(guess * second, left << DIGIT_BITS | third) <= 0) {
                    break;
                }
                guess--;
                left += top;
            }
            return guess;
        }

        /** The pair has 64 bits and no sign, which Java's division does not know: so its half is divided. */
        private static long quotientOfPair(long pair, long top) {
            if (top <= 0) {
                return 0;
            }
            long quotient = ((pair >>> 1) / top) << 1;
            return pair - quotient * top >= top ? quotient + 1 : quotient;
        }

        /** Whether the rest went below 0. */
        private boolean subtract(int place, int n, long factor) {
            long[] into = rest.digits;
            long[] from = scaled.digits;
            long carry = 0;
            for (int k = 0; k < n; k++) {
                long t = factor * from[k] + carry;
                long left = into[place + k] - (t & DIGIT);
                into[place + k] = left & DIGIT;
                carry = (t >>> DIGIT_BITS) + (left >>> (Long.SIZE - 1));
            }
            long left = into[place + n] - carry;
            into[place + n] = left & DIGIT;
            return left < 0;
        }

        private void addBack(int place, int n) {
            long[] into = rest.digits;
            long[] from = scaled.digits;
            long carry = 0;
            for (int k = 0; k < n; k++) {
                long t = into[place + k] + from[k] + carry;
                into[place + k] = t & DIGIT;
                carry = t >>> DIGIT_BITS;
            }
            into[place + n] = (into[place + n] + carry) & DIGIT;
        }
    }

    /**
     * Common divisors by Euclid's steps, some seventeen at a time as far as the
     * highest bits alone can tell them (Knuth's algorithm L): one by one, numbers of 65,536 bits need 38,000.
     */
    private static final class Euclid {
        private static final int LEAD_BITS = 62;
        // With factors below 2^30 the sum of two multiples of digits and a carry fits into a long.
        private static final long MOST_FACTOR = (1L << 30) - 1;
        // Factors grow like Fibonacci's numbers or faster, and pass 2^30 within 45 steps.
        private static final int MOST_FORESEEN = 64;
        // Numbers of 65,536 bits take at most 94,400 steps.
        private static final int MOST_STEPS = 1000000;

        // Two neighbours among the remainders, x above y. At the end x is the common divisor.
        final Whole x = new Whole();
        // The sizes of what the second number is multiplied by to differ from
        // x and from y by a multiple of the first: just one of the two is below 0.
        final Whole factorX = new Whole();
        boolean isFactorBelow = false;

        private final Whole y = new Whole();
        private final Whole factorY = new Whole();
        private final Whole spare = new Whole();
        private final Divider divider = new Divider();

        // The foreseen steps: x becomes xx * x + xy * y, and y becomes yx * x + yy * y.
        private long xx = 1;
        private long xy = 0;
        private long yx = 0;
        private long yy = 1;

        /** The factors are found only when asked for, and then b is not above a. */
        void run(Whole a, Whole b, boolean withFactors) {
            boolean inOrder = a.against(b) >= 0;
            x.copy(inOrder ? a : b);
            y.copy(inOrder ? b : a);
            factorX.clear();
            factorY.load(1);
            isFactorBelow = true;
            for (int i = 0; i < MOST_STEPS && !y.isZero(); i++) {
                if (foresee()) {
                    leap(withFactors);
                } else {
                    divider.run(x, y);
                    step(withFactors);
                }
            }
        }

        /** Whether the highest bits told one step or more. */
        private boolean foresee() {
            int low = Math.max(0, x.bits() - LEAD_BITS);
            long u = x.bitsFrom(low);
            long v = y.bitsFrom(low);
            xx = 1;
            xy = 0;
            yx = 0;
            yy = 1;
            for (int i = 0; i < MOST_FORESEEN; i++) {
                if (v + yx <= 0 || v + yy <= 0) {
                    break;
                }
                // The cut bits leave x / y between these two: where both agree, the quotient is sure.
                long quotient = (u + xx) / (v + yx);
                if (quotient != (u + xy) / (v + yy) || !turn(quotient)) {
                    break;
                }
                long t = u - quotient * v;
                u = v;
                v = t;
            }
            return xy != 0;
        }

        /** Takes one more step into the foreseen ones; false when factors would become too great. */
        private boolean turn(long quotient) {
            if (quotient > MOST_FACTOR) {
                return false;
            }
            long nextX = xx - quotient * yx;
            long nextY = xy - quotient * yy;
            if (Math.max(Math.abs(nextX), Math.abs(nextY)) > MOST_FACTOR) {
                return false;
            }
            xx = yx;
            xy = yy;
            yx = nextX;
            yy = nextY;
            return true;
        }

        private void leap(boolean withFactors) {
            leapRemainders();
            if (withFactors) {
                leapFactors();
            }
            // yy changes its sign with each step, as the factors do.
            if (yy < 0) {
                isFactorBelow = !isFactorBelow;
            }
        }

        private void leapRemainders() {
            int n = x.count;
            y.widen(n);
            multiply(x.digits, y.digits, n, xx, xy, yx, yy);
            x.trim(n);
            y.trim(n);
        }

        /** As the factors have unlike signs, and so have those of a foreseen step, all sizes add up. */
        private void leapFactors() {
            int n = Math.max(factorX.count, factorY.count) + 1;
            factorX.widen(n);
            factorY.widen(n);
            multiply(factorX.digits, factorY.digits, n,
                    Math.abs(xx), Math.abs(xy), Math.abs(yx), Math.abs(yy));
            factorX.trim(n);
            factorY.trim(n);
        }

        /** u becomes a * u + b * v, and v becomes c * u + d * v, over n digits. */
        private static void multiply(long[] u, long[] v, int n, long a, long b, long c, long d) {
            long carryU = 0;
            long carryV = 0;
            for (int k = 0; k < n; k++) {
                long s = a * u[k] + b * v[k] + carryU;
                long t = c * u[k] + d * v[k] + carryV;
                u[k] = s & DIGIT;
                v[k] = t & DIGIT;
                carryU = s >> DIGIT_BITS;
                carryV = t >> DIGIT_BITS;
            }
        }

        /** One step with the quotient and the rest that the divider holds. */
        private void step(boolean withFactors) {
            x.copy(y);
            y.copy(divider.rest);
            if (withFactors) {
                spare.product(divider.quotient, factorY);
                spare.sum(spare, factorX);
                factorX.copy(factorY);
                factorY.copy(spare);
            }
            isFactorBelow = !isFactorBelow;
        }
    }
}
