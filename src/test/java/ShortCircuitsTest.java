import java.util.ArrayList;
import java.util.List;

/** All circuits of three acts on two wires, apart or tied together, and looks of each kind behind them. */
public final class ShortCircuitsTest {
    private static final Due DUE = new Due();
    private static final Oracle ORACLE = new Oracle(DUE);
    private static final int[][] TURNS = {{}, {0}, {1, 0}};

    public static void main(String[] args) {
        List<int[]> acts = allActs();
        int count = acts.size();
        for (int i = 0; i < count * count * count && DUE.allRight(); i++) {
            for (int end = 0; end < 2 * TURNS.length; end++) {
                compare(i, end, acts.get(i % count), acts.get(i / count % count), acts.get(i / count / count));
            }
        }
        DUE.end();
    }

    private static List<int[]> allActs() {
        List<int[]> acts = new ArrayList<>();
        for (int a = 0; a <= 1; a++) {
            for (int kind = 0; kind <= Circuit.RESET; kind++) {
                acts.add(new int[] {kind, a, 1 - a, 0});
            }
            for (int what = 0; what <= 2; what++) {
                acts.add(new int[] {Circuit.FAULT, a, what, 3 + 4 * what});
            }
        }
        return acts;
    }

    private static void compare(int number, int end, int[]... acts) {
        Circuit circuit = new Circuit(2);
        if (end % 2 == 1) {
            circuit.add(0, 0, 0).add(2, 0, 1);
        }
        circuit.acts.addAll(List.of(acts));
        // The wires are turned in different ways, so that all pairs of turns come up over the circuits.
        for (int a = 0; a <= 1; a++) {
            for (int kind : TURNS[(end / 2 + a * number) % TURNS.length]) {
                circuit.add(kind, a, 0);
            }
        }
        circuit.add(Circuit.LOOK, 0, 0).add(Circuit.LOOK, 1, 0);
        long looks = Limits.all(circuit.looks());
        circuit.checks.addAll(List.of(looks, looks >>> 1, 1L));
        Tried x = circuit.built();
        String where = "circuit " + number + ", " + end;
        long randoms = ORACLE.compareOutcomes(x, circuit, where);
        ORACLE.compareChanges(x, circuit, where);
        ORACLE.compareEdges(x, circuit, where);
        ORACLE.compareRun(x, circuit, Limits.all(circuit.faults()), number, randoms, where);
    }
}
