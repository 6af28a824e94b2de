import java.math.BigInteger;

/** Long runs of calls on SignedMill and on the model, whose answers and registers must stay alike. */
public final class ModelTests {
    private static final int CALLS = 512;

    private long seed;
    private int mostBits;
    private SignedMill mill;
    private Model model;
    private String call;

    public static void main(String[] args) {
        ModelTests tests = new ModelTests();
        for (int run = 0; run < 100; run++) {
            tests.run(run, 70);
            tests.run(run + 1000, 400);
            tests.run(run + 2000, 4000);
        }
        for (int run = 0; run < 12; run++) {
            tests.run(run + 3000, 65536);
        }
        Due.end("ModelTests");
    }

    private void run(int number, int bits) {
        seed = number * 0x9E3779B97F4A7C15L + 1;
        mostBits = bits;
        mill = new SignedMill();
        model = new Model();
        for (int i = 0; i < CALLS && Due.wrongs() == 0; i++) {
            call();
            for (int r = 0; r < 16; r++) {
                Due.same(call + " then sign", mill.sign(r), model.sign(r));
                Due.same(call + " then length", mill.length(r), model.length(r));
            }
            compareRegister(below(16));
            call = "run " + number + " call " + i + ": " + call;
        }
        for (int r = 0; r < 16; r++) {
            compareRegister(r);
        }
    }

    private void compareRegister(int r) {
        int words = model.registers[r].bitLength() / 32 + 2;
        Due.same(call + " then register " + r, Due.read(mill, r, words), model.registers[r]);
        Due.same(call + " then ones " + r, mill.ones(r), model.ones(r));
        Due.same(call + " then lowest " + r, mill.lowest(r), model.lowest(r));
    }

    private long next() {
        seed ^= seed << 13;
        seed ^= seed >>> 7;
        seed ^= seed << 17;
        return seed * 0x2545F4914F6CDD1DL;
    }

    private int below(int n) {
        return (int) Math.floorMod(next() >> 16, (long) n);
    }

    /** A register, and now and then none. */
    private int register() {
        if (below(200) > 0) {
            return below(16);
        }
        int[] others = {-1, 16, 17, Integer.MIN_VALUE, Integer.MAX_VALUE, -16};
        return others[below(others.length)];
    }

    /** Numbers with long runs of like bits reach the rare branches of a division. */
    private BigInteger number() {
        int bits = below(4) == 0 ? mostBits - below(Math.min(3, mostBits)) : below(mostBits + 1);
        BigInteger size = BigInteger.ZERO;
        int kind = below(4);
        if (kind == 0) {
            size = Due.two(bits).subtract(BigInteger.ONE);
        } else if (kind == 1) {
            size = Due.two(Math.min(bits, 65535)).add(BigInteger.valueOf(below(3) - 1));
        } else {
            for (int left = bits; left > 0;) {
                int n = Math.min(left, kind == 2 ? 64 : 1 + below(100));
                long random = next();
                BigInteger part = BigInteger.valueOf(kind == 2 ? random : random % 2).and(Due.two(n).subtract(BigInteger.ONE));
                size = size.shiftLeft(n).add(part);
                left -= n;
            }
        }
        return below(2) == 0 ? size : size.negate();
    }

    private long bits64() {
        long[] edges = {0, 1, -1, Long.MIN_VALUE, Long.MAX_VALUE, 0xFFFFFFFFL, 0x100000000L, 0xFFFFFFFF00000000L};
        return below(3) == 0 ? edges[below(edges.length)] : next() >> below(64);
    }

    private int place() {
        int[] edges = {-1, Integer.MIN_VALUE, Integer.MAX_VALUE, 65535, 65536, 65537, 70000};
        return below(10) == 0 ? edges[below(edges.length)] : below(mostBits + 40);
    }

    private void same(String what, Object got, Object want) {
        call = what;
        Due.same(what, got, want);
    }

    private void fill() {
        int r = below(16);
        BigInteger value = number();
        Due.write(mill, r, value);
        model.registers[r] = value;
        call = "fill " + r;
    }

    private void call() {
        int kind = below(27);
        if (kind < 6) {
            fill();
        } else if (kind < 16) {
            callPlain(kind);
        } else {
            callHard(kind);
        }
    }

    private void callPlain(int kind) {
        int d = register();
        int a = register();
        int b = register();
        long v = bits64();
        int n = below(30) == 0 ? place() : below(mostBits / 64 + 1);
        String all = " " + d + " " + a + " " + b + " " + v + " " + n;
        switch (kind) {
            case 6 -> same("put" + all, mill.put(d, v), model.put(d, v));
            case 7 -> same("push" + all, mill.push(d, v), model.push(d, v));
            case 8 -> same("spread" + all, mill.spread(d, v, n), model.spread(d, v, n));
            case 9 -> same("negate" + all, mill.negate(d, a), model.negate(d, a));
            case 10 -> same("add" + all, mill.add(d, a, b), model.add(d, a, b));
            case 11 -> same("take" + all, mill.take(d, a, b), model.take(d, a, b));
            case 12 -> same("times" + all, mill.times(d, a, b), model.times(d, a, b));
            case 13 -> same("compare" + all, mill.compare(a, b), model.compare(a, b));
            case 14 -> same("word" + all, mill.word(a, n), model.word(a, n));
            default -> reads(a);
        }
    }

    private void reads(int r) {
        same("sign " + r, mill.sign(r), model.sign(r));
        same("length " + r, mill.length(r), model.length(r));
        same("ones " + r, mill.ones(r), model.ones(r));
        same("lowest " + r, mill.lowest(r), model.lowest(r));
    }

    private void callHard(int kind) {
        int d = register();
        int e = register();
        int a = register();
        int b = register();
        int how = below(20) == 0 ? place() : below(4);
        int k = place();
        boolean down = below(2) == 0;
        String all = " " + d + " " + e + " " + a + " " + b + " " + how + " " + k + " " + down;
        switch (kind) {
            case 16, 17, 18 -> same("divide" + all, mill.divide(d, e, a, b, down), model.divide(d, e, a, b, down));
            case 19 -> same("logic" + all, mill.logic(d, a, b, how), model.logic(d, a, b, how));
            case 20 -> same("shift" + all, mill.shift(d, a, down ? k : -k), model.shift(d, a, down ? k : -k));
            case 21 -> same("change" + all, mill.change(d, a, k, how), model.change(d, a, k, how));
            case 22 -> power(d, a);
            case 23 -> same("common" + all, mill.common(d, a, b), model.common(d, a, b));
            case 24 -> same("inverse" + all, mill.inverse(d, a, b), model.inverse(d, a, b));
            case 25 -> same("modulo" + all, mill.modulo(d, a, e, b), model.modulo(d, a, e, b));
            default -> multiples(a, b);
        }
    }

    private void power(int d, int a) {
        int n = below(20) == 0 ? place() : below(40);
        if (a >= 0 && a < 16 && below(2) == 0) {
            n = 65536 / Math.max(1, model.registers[a].bitLength()) + below(3) - 1;
        }
        same("power " + d + " " + a + " " + n, mill.power(d, a, n), model.power(d, a, n));
    }

    /** Without this, common divisors would nearly always be 1. */
    private void multiples(int a, int b) {
        same("times " + a + " " + b, mill.times(a, a, b), model.times(a, a, b));
        int c = register();
        same("times " + c + " " + b, mill.times(c, c, b), model.times(c, c, b));
        same("common " + a + " " + c, mill.common(b, a, c), model.common(b, a, c));
    }
}
