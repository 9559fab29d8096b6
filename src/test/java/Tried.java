import java.util.ArrayList;
import java.util.List;
import java.util.function.ToLongFunction;

/**
 * An object under test with the document's face. Nothing is promised after an object's 512th call,
 * so before it would come, a new object is made by the same building calls and asked instead.
 */
final class Tried {
    private static final int MOST_CALLS = 512;

    private final List<ToLongFunction<FrameSamples>> built = new ArrayList<>();
    private FrameSamples object = new FrameSamples();
    private int calls;

    boolean begin(int n) {
        return build(x -> x.begin(n) ? 1L : 0L) == 1L;
    }

    boolean gate(int kind, int a, int b) {
        return build(x -> x.gate(kind, a, b) ? 1L : 0L) == 1L;
    }

    int look(int a, boolean reset) {
        return (int) build(x -> x.look(a, reset));
    }

    int fault(int what, int a, int k) {
        return (int) build(x -> x.fault(what, a, k));
    }

    int check(long looks) {
        return (int) build(x -> x.check(looks));
    }

    long outcome(int look, int what) {
        return ask(x -> x.outcome(look, what));
    }

    long told(int check, int what) {
        return ask(x -> x.told(check, what));
    }

    long changes(int fault, int what) {
        return ask(x -> x.changes(fault, what));
    }

    long edge(int i, int what) throws ArithmeticException {
        return ask(x -> x.edge(i, what));
    }

    long run(long faults, long tells) {
        return ask(x -> x.run(faults, tells));
    }

    int total(int what) {
        return (int) ask(x -> x.total(what));
    }

    private long build(ToLongFunction<FrameSamples> call) {
        long answer = ask(call);
        built.add(call);
        return answer;
    }

    private long ask(ToLongFunction<FrameSamples> call) {
        if (calls >= MOST_CALLS) {
            buildAnew();
        }
        calls++;
        return call.applyAsLong(object);
    }

    private void buildAnew() {
        if (built.size() >= MOST_CALLS) {
            throw new IllegalStateException("a test that builds with more than 512 calls");
        }
        object = new FrameSamples();
        for (ToLongFunction<FrameSamples> call : built) {
            call.applyAsLong(object);
        }
        calls = built.size();
    }
}
