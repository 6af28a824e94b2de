import java.util.ArrayList;
import java.util.List;
import java.util.function.Predicate;
import java.util.function.ToIntFunction;

/**
 * A SignedMill of which the tests ask no more than the document promises: 512 calls after it has been made.
 * When these are used up, a new object takes its place, on which the calls that put numbers are made again.
 */
final class Mill {
    private static final int MOST_CALLS = 512;

    private final List<Predicate<SignedMill>> puts = new ArrayList<>();
    private final List<Boolean> answers = new ArrayList<>();
    private SignedMill mill = new SignedMill();
    private int calls = 0;

    boolean put(int r, long v) {
        return puts(x -> x.put(r, v));
    }

    boolean push(int r, long bits) {
        return puts(x -> x.push(r, bits));
    }

    boolean spread(int r, long bits, int n) {
        return puts(x -> x.spread(r, bits, n));
    }

    boolean negate(int d, int a) {
        return puts(x -> x.negate(d, a));
    }

    boolean add(int d, int a, int b) {
        return puts(x -> x.add(d, a, b));
    }

    boolean take(int d, int a, int b) {
        return puts(x -> x.take(d, a, b));
    }

    boolean times(int d, int a, int b) {
        return puts(x -> x.times(d, a, b));
    }

    boolean divide(int q, int r, int a, int b, boolean down) {
        return puts(x -> x.divide(q, r, a, b, down));
    }

    boolean logic(int d, int a, int b, int how) {
        return puts(x -> x.logic(d, a, b, how));
    }

    boolean shift(int d, int a, int n) {
        return puts(x -> x.shift(d, a, n));
    }

    boolean change(int d, int a, int k, int how) {
        return puts(x -> x.change(d, a, k, how));
    }

    boolean power(int d, int a, int n) {
        return puts(x -> x.power(d, a, n));
    }

    boolean common(int d, int a, int b) {
        return puts(x -> x.common(d, a, b));
    }

    boolean inverse(int d, int a, int m) {
        return puts(x -> x.inverse(d, a, m));
    }

    boolean modulo(int d, int a, int e, int m) {
        return puts(x -> x.modulo(d, a, e, m));
    }

    int compare(int a, int b) {
        return reads(x -> x.compare(a, b));
    }

    int sign(int r) {
        return reads(x -> x.sign(r));
    }

    int length(int r) {
        return reads(x -> x.length(r));
    }

    int ones(int r) {
        return reads(x -> x.ones(r));
    }

    int lowest(int r) {
        return reads(x -> x.lowest(r));
    }

    int word(int r, int k) {
        return reads(x -> x.word(r, k));
    }

    /** How many of the calls put numbers or were to do so. */
    int putsMade() {
        return puts.size();
    }

    private boolean puts(Predicate<SignedMill> call) {
        count();
        boolean answer = call.test(mill);
        // Refused calls, too: one that changes something all the same must do so again.
        puts.add(call);
        answers.add(answer);
        return answer;
    }

    private int reads(ToIntFunction<SignedMill> call) {
        count();
        return call.applyAsInt(mill);
    }

    private void count() {
        if (calls == MOST_CALLS) {
            renew();
        }
        calls++;
    }

    private void renew() {
        if (puts.size() == MOST_CALLS) {
            throw new IllegalStateException("a test makes more calls than the document promises");
        }
        mill = new SignedMill();
        calls = puts.size();
        for (int i = 0; i < puts.size(); i++) {
            Due.same("the same calls on another object: call " + i, puts.get(i).test(mill), answers.get(i));
        }
    }
}
