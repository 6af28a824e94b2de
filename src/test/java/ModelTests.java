import java.math.BigInteger;

/** Long runs of calls on SignedMill and on the model, whose answers and registers must stay alike. */
public final class ModelTests {
    // Of longer numbers only some are read wholly: that takes more calls than one object has.
    private static final int WHOLLY_READ = 4000;
    private static final int MOST_PUSHED = 400;

    private String name;
    private long seed;
    private int mostBits;
    private Mill mill;
    private Model model;
    // The register that the run's last call put a number into, if it did.
    private int written;

    public static void main(String[] args) {
        ModelTests tests = new ModelTests();
        for (int run = 0; run < 150; run++) {
            tests.run(run, 70, 400);
            tests.run(run + 1000, 400, 400);
            tests.run(run + 2000, 4000, 200);
        }
        for (int run = 0; run < 16; run++) {
            tests.run(run + 3000, 65536, 100);
        }
        Due.end("ModelTests");
    }

    private void run(int number, int bits, int puts) {
        seed = number * 0x9E3779B97F4A7C15L + 1;
        name = "run " + number;
        mostBits = bits;
        mill = new Mill();
        model = new Model();
        while (mill.putsMade() < puts && Due.wrongs() == 0) {
            written = below(16);
            call();
            look(written);
            look(below(16));
            if (below(8) == 0) {
                readWholly(written);
            }
        }
        for (int r = 0; r < 16; r++) {
            look(r);
            readWholly(r);
        }
    }

    private void look(int r) {
        int k = below(model.length(r) / 32 + 2);
        same("sign of " + r, mill.sign(r), model.sign(r));
        same("length of " + r, mill.length(r), model.length(r));
        same("ones of " + r, mill.ones(r), model.ones(r));
        same("lowest of " + r, mill.lowest(r), model.lowest(r));
        same("word " + k + " of " + r, mill.word(r, k), model.word(r, k));
    }

    private void readWholly(int r) {
        if (model.length(r) <= WHOLLY_READ || below(20) == 0) {
            same("register " + r, Due.read(mill, r), model.registers[r]);
        }
    }

    private long next() {
        seed ^= seed << 13;
        seed ^= seed >>> 7;
        seed ^= seed << 17;
        return seed * 0x2545F4914F6CDD1DL;
    }

    private int below(int n) {
        return (int) Math.floorMod(next() >> 16, (long) n);
    }

    /** A register, and now and then none. */
    private int register() {
        if (below(200) > 0) {
            return below(16);
        }
        int[] others = {-1, 16, 17, Integer.MIN_VALUE, Integer.MAX_VALUE, -16};
        return others[below(others.length)];
    }

    /** A register to put a number into, which is looked at after the call. */
    private int target() {
        int d = register();
        written = d >= 0 && d < 16 ? d : written;
        return d;
    }

    private long bits64() {
        long[] edges = {0, 1, -1, Long.MIN_VALUE, Long.MAX_VALUE, 0xFFFFFFFFL, 0x100000000L, 0xFFFFFFFF00000000L};
        return below(3) == 0 ? edges[below(edges.length)] : next() >> below(64);
    }

    private int place() {
        int[] edges = {-1, Integer.MIN_VALUE, Integer.MAX_VALUE, 65535, 65536, 65537, 70000};
        return below(10) == 0 ? edges[below(edges.length)] : below(mostBits + 40);
    }

    private void same(String what, Object got, Object want) {
        Due.same(name + ", call " + mill.putsMade() + ": " + what, got, want);
    }

    private void fill() {
        int bits = below(4) == 0 ? mostBits - below(3) : 1 + below(mostBits);
        switch (below(4)) {
            case 0 -> fillByPushes(written, Math.min(bits, MOST_PUSHED));
            case 1 -> fillByPower(written, bits);
            case 2 -> fillWithOnes(written, bits);
            default -> fillNearPower(written, Math.min(bits, 65535));
        }
        if (below(2) == 0) {
            same("negate " + written, mill.negate(written, written), model.negate(written, written));
        }
    }

    /** Pushed bits have long runs of like ones, which reach the rare branches of a division. */
    private void fillByPushes(int r, int bits) {
        same("put " + r, mill.put(r, 0), model.put(r, 0));
        for (int left = bits; left > 0; left -= 64) {
            long v = bits64();
            same("push " + r + " " + v, mill.push(r, v), model.push(r, v));
        }
    }

    /** A long number that looks random, in two calls. */
    private void fillByPower(int r, int bits) {
        long v = next() >>> 1 + below(40) | 1;
        int n = Math.max(1, bits / (64 - Long.numberOfLeadingZeros(v)));
        same("put " + r + " " + v, mill.put(r, v), model.put(r, v));
        same("power " + r + " " + n, mill.power(r, r, n), model.power(r, r, n));
    }

    /** 2^bits - 1. */
    private void fillWithOnes(int r, int bits) {
        same("spread " + r, mill.spread(r, -1, 1024), model.spread(r, -1, 1024));
        same("shift " + r + " " + (bits - 65536), mill.shift(r, r, bits - 65536), model.shift(r, r, bits - 65536));
    }

    /** -2^n or one of its neighbours. */
    private void fillNearPower(int r, int n) {
        int other = (r + 1) % 16;
        int near = below(3) - 1;
        same("put " + r, mill.put(r, -1), model.put(r, -1));
        same("shift " + r + " " + n, mill.shift(r, r, n), model.shift(r, r, n));
        if (near != 0) {
            same("put " + other, mill.put(other, near), model.put(other, near));
            same("add " + r + " " + other, mill.add(r, r, other), model.add(r, r, other));
        }
    }

    private void call() {
        int kind = below(27);
        if (kind < 6) {
            fill();
        } else if (kind < 16) {
            callPlain(kind);
        } else {
            callHard(kind);
        }
    }

    private void callPlain(int kind) {
        int d = target();
        int a = register();
        int b = register();
        long v = bits64();
        int n = below(30) == 0 ? place() : below(mostBits / 64 + 1);
        String all = " " + d + " " + a + " " + b + " " + v + " " + n;
        switch (kind) {
            case 6 -> same("put" + all, mill.put(d, v), model.put(d, v));
            case 7 -> same("push" + all, mill.push(d, v), model.push(d, v));
            case 8 -> same("spread" + all, mill.spread(d, v, n), model.spread(d, v, n));
            case 9 -> same("negate" + all, mill.negate(d, a), model.negate(d, a));
            case 10 -> same("add" + all, mill.add(d, a, b), model.add(d, a, b));
            case 11 -> same("take" + all, mill.take(d, a, b), model.take(d, a, b));
            case 12 -> same("times" + all, mill.times(d, a, b), model.times(d, a, b));
            case 13 -> same("compare" + all, mill.compare(a, b), model.compare(a, b));
            case 14 -> same("word" + all, mill.word(a, n), model.word(a, n));
            default -> reads(a);
        }
    }

    private void reads(int r) {
        same("sign " + r, mill.sign(r), model.sign(r));
        same("length " + r, mill.length(r), model.length(r));
        same("ones " + r, mill.ones(r), model.ones(r));
        same("lowest " + r, mill.lowest(r), model.lowest(r));
    }

    private void callHard(int kind) {
        int d = target();
        int e = register();
        int a = register();
        int b = register();
        int how = below(20) == 0 ? place() : below(4);
        int k = place();
        boolean down = below(2) == 0;
        String all = " " + d + " " + e + " " + a + " " + b + " " + how + " " + k + " " + down;
        switch (kind) {
            case 16, 17, 18 -> same("divide" + all, mill.divide(d, e, a, b, down), model.divide(d, e, a, b, down));
            case 19 -> same("logic" + all, mill.logic(d, a, b, how), model.logic(d, a, b, how));
            case 20 -> same("shift" + all, mill.shift(d, a, down ? k : -k), model.shift(d, a, down ? k : -k));
            case 21 -> same("change" + all, mill.change(d, a, k, how), model.change(d, a, k, how));
            case 22 -> power(d, a);
            case 23 -> same("common" + all, mill.common(d, a, b), model.common(d, a, b));
            case 24 -> same("inverse" + all, mill.inverse(d, a, b), model.inverse(d, a, b));
            case 25 -> same("modulo" + all, mill.modulo(d, a, e, b), model.modulo(d, a, e, b));
            default -> multiples(a, b);
        }
    }

    private void power(int d, int a) {
        int n = below(20) == 0 ? place() : below(40);
        if (a >= 0 && a < 16 && below(2) == 0) {
            n = 65536 / Math.max(1, model.registers[a].bitLength()) + below(3) - 1;
        }
        same("power " + d + " " + a + " " + n, mill.power(d, a, n), model.power(d, a, n));
    }

    /** Without this, common divisors would nearly always be 1. */
    private void multiples(int a, int b) {
        same("times " + a + " " + b, mill.times(a, a, b), model.times(a, a, b));
        int c = register();
        same("times " + c + " " + b, mill.times(c, c, b), model.times(c, c, b));
        same("common " + a + " " + c, mill.common(b, a, c), model.common(b, a, c));
    }
}
