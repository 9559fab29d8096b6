import java.util.ArrayList;
import java.util.List;
import java.util.function.Consumer;

/** What the tests of limits share: circuits, numbers round a limit, and that nothing has changed. */
final class Limits {
    private static final int ENDINGS = 3;
    private static final long THROWN = Long.MIN_VALUE + 1;

    private final Due due;

    Limits(Due due) {
        this.due = due;
    }

    /** Numbers outside least .. most: the next ones, the utmost, and those that a shift or a cast wraps. */
    static List<Integer> outside(int least, int most) {
        int[] far = {16, 31, 32, 33, 40, 60, 63, 64, 255, 256, 65536, 1 << 30};
        List<Integer> numbers = new ArrayList<>(List.of(Integer.MIN_VALUE, Integer.MIN_VALUE + 1,
            least - 1, least - 2, most + 1, most + 2, Integer.MAX_VALUE - 1, Integer.MAX_VALUE));
        for (int more : far) {
            numbers.add(least - more);
            numbers.add(least + more);
            numbers.add(most + more);
        }
        numbers.removeIf(i -> i >= least && i <= most);
        return numbers;
    }

    /** Sets with an element that is not one of 0 .. size - 1, alone or beside all of these. */
    static List<Long> setsOutside(int size) {
        long all = all(size);
        List<Long> sets = new ArrayList<>(List.of(-1L, ~all, Long.MIN_VALUE, Long.MIN_VALUE | all,
            Long.MIN_VALUE + 1, Long.MAX_VALUE));
        for (int i = size; i < 64; i++) {
            sets.add(1L << i);
            sets.add(1L << i | all);
        }
        return sets;
    }

    static long all(int size) {
        return (1L << size) - 1;
    }

    /** Three wires tied together, signs of all kinds, and faults that are still on their way. */
    static void some(Tried x) {
        x.begin(3);
        x.gate(0, 0, 0);
        x.gate(2, 0, 1);
        x.fault(1, 1, 3);
        x.gate(1, 1, 0);
        x.fault(0, 0, 5);
        x.gate(2, 1, 2);
        x.look(0, false);
        x.fault(2, 2, 16);
        x.gate(0, 2, 0);
        x.look(2, true);
        x.gate(5, 1, 0);
        x.fault(0, 2, 0);
        x.look(1, false);
        x.check(5L);
        x.check(2L);
        x.gate(0, 1, 0);
        x.gate(3, 1, 2);
        x.fault(1, 1, 8);
        x.fault(0, 0, 8);
        x.gate(0, 0, 0);
        x.gate(2, 0, 2);
        x.gate(6, 0, 0);
    }

    /** Ten wires, and of all that has a limit as much as there may be. */
    static void full(Tried x) {
        x.begin(10);
        for (int i = 0; i < 60; i++) {
            x.gate(i % 2, i % 10, 0);
            x.gate(5 + i / 2 % 2, i * 3 % 10, 0);
            x.gate(2 + i % 3, i % 10, (i + 1 + i / 10) % 10);
            if (i % 3 != 2) {
                x.fault(i % 4 % 3, i * 7 % 10, i % 17);
            }
            x.look(i * 3 % 10, i % 5 == 0);
        }
        for (int i = 0; i < 20; i++) {
            x.gate(i % 2, i % 10, 0);
        }
        for (int i = 0; i < 16; i++) {
            x.check(all(60) / ((1L << i + 1) - 1) >>> 2 * i);
        }
    }

    /** Tries wrong calls where they may do harm: nothing is changed, neither at once nor later. */
    void changeNothing(Consumer<Tried> before, Consumer<Tried> wrong) {
        comeToTheSame(before.andThen(wrong), before);
    }

    /** Two ways to make an object after which all answers are alike, at once and later. */
    void comeToTheSame(Consumer<Tried> one, Consumer<Tried> other) {
        for (int ending = 0; ending < ENDINGS; ending++) {
            Tried x = new Tried();
            one.accept(x);
            Tried twin = new Tried();
            other.accept(twin);
            alike(x, twin);
            goOn(x, twin, ending);
            alike(x, twin);
        }
    }

    /** Acts by which x's, y's or z's that wait on a wire, and their signs, are told. */
    private void goOn(Tried x, Tried twin, int ending) {
        int wires = twin.total(0);
        for (int a = 0; a < wires; a++) {
            if (ending == 2) {
                due.is("later: s", x.gate(1, a, 0), twin.gate(1, a, 0));
            }
            if (ending >= 1) {
                due.is("later: h", x.gate(0, a, 0), twin.gate(0, a, 0));
            }
        }
        for (int a = 0; a < wires; a++) {
            due.is("later: look", x.look(a, false), twin.look(a, false));
        }
        // A fault that is wrongly put in another's place would hide that one, so first compare.
        alike(x, twin);
        due.is("later: fault", x.fault(1, 0, 7), twin.fault(1, 0, 7));
        due.is("later: last look", x.look(0, false), twin.look(0, false));
        long last = 1L << Math.max(twin.total(2) - 1, 0);
        due.is("later: check", x.check(last), twin.check(last));
    }

    /** All that can be asked. */
    private void alike(Tried x, Tried twin) {
        for (int what = 0; what <= 5; what++) {
            due.is("twin: total(" + what + ")", x.total(what), twin.total(what));
        }
        for (int i = 0; i < twin.total(2); i++) {
            for (int what = 0; what <= 1; what++) {
                due.is("twin: outcome(" + i + ", " + what + ")", x.outcome(i, what), twin.outcome(i, what));
            }
            due.is("twin: run(0, 2^" + i + ")", x.run(0L, 1L << i), twin.run(0L, 1L << i));
        }
        for (int i = 0; i < twin.total(3); i++) {
            for (int what = 0; what <= 1; what++) {
                due.is("twin: changes(" + i + ", " + what + ")", x.changes(i, what), twin.changes(i, what));
            }
            due.is("twin: run(2^" + i + ", -1)", x.run(1L << i, -1L), twin.run(1L << i, -1L));
        }
        for (int i = 0; i < twin.total(4); i++) {
            for (int what = 0; what <= 2; what++) {
                due.is("twin: told(" + i + ", " + what + ")", x.told(i, what), twin.told(i, what));
            }
        }
        for (int i = 0; i <= twin.total(5); i++) {
            for (int what = 0; what <= 3; what++) {
                due.is("twin: edge(" + i + ", " + what + ")", edge(x, i, what), edge(twin, i, what));
            }
        }
    }

    private static long edge(Tried x, int i, int what) {
        try {
            return x.edge(i, what);
        } catch (ArithmeticException e) {
            return THROWN;
        }
    }
}
