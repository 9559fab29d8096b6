import java.util.Map;
import java.util.Random;

/** Compares all answers about a circuit with a run of it on all amplitudes. */
final class Oracle {
    private final Due due;

    Oracle(Due due) {
        this.due = due;
    }

    void compare(Tried x, Circuit circuit, Random random, String which) {
        String where = which + " at act " + circuit.acts.size();
        due.totals(where, x, circuit.wires, circuit.acts.size(), circuit.looks(), circuit.faults(),
            circuit.checks.size(), circuit.edges().size());
        long randoms = compareOutcomes(x, circuit, where);
        compareChanges(x, circuit, where);
        compareEdges(x, circuit, where);
        for (int i = 0; i < 4; i++) {
            long set = random.nextLong() & (1L << circuit.faults()) - 1;
            compareRun(x, circuit, set, random.nextLong(), randoms, where);
        }
    }

    /** The random looks. */
    long compareOutcomes(Tried x, Circuit circuit, String where) {
        long[] seen = new long[1];
        long constants = circuit.sample(0L, seen);
        long randoms = seen[0];
        long[] sets = new long[60];
        for (int r = 0; r < circuit.looks(); r++) {
            if ((randoms >>> r & 1) != 0) {
                long differ = circuit.sample(1L << r, seen) ^ constants;
                for (int i = 0; i < 60; i++) {
                    sets[i] |= (differ >>> i & 1) << r;
                }
            }
        }
        for (int i = 0; i < circuit.looks(); i++) {
            due.is(where + ": outcome(" + i + ", 0)", x.outcome(i, 0), constants >>> i & 1);
            due.is(where + ": outcome(" + i + ", 1)", x.outcome(i, 1), sets[i]);
        }
        for (int c = 0; c < circuit.checks.size(); c++) {
            long looks = circuit.checks.get(c);
            long set = 0L;
            for (int i = 0; i < circuit.looks(); i++) {
                set ^= (looks >>> i & 1) != 0 ? sets[i] : 0L;
            }
            due.is(where + ": told(" + c + ", 0)", x.told(c, 0), set == 0L ? 1 : 0);
            due.is(where + ": told(" + c + ", 1)", x.told(c, 1), Long.bitCount(looks & constants) % 2);
            due.is(where + ": told(" + c + ", 2)", x.told(c, 2), set);
        }
        return randoms;
    }

    void compareChanges(Tried x, Circuit circuit, String where) {
        for (int f = 0; f < circuit.faults(); f++) {
            due.is(where + ": changes(" + f + ", 0)", x.changes(f, 0), circuit.changed(f));
            due.is(where + ": changes(" + f + ", 1)", x.changes(f, 1), circuit.changedChecks(f));
        }
    }

    void compareEdges(Tried x, Circuit circuit, String where) {
        int i = 0;
        for (Map.Entry<Long, Long> edge : circuit.edges().entrySet()) {
            due.is(where + ": edge(" + i + ", 0)", x.edge(i, 0), edge.getKey());
            due.is(where + ": edge(" + i + ", 1)", x.edge(i, 1), edge.getValue());
            if (Long.bitCount(edge.getValue()) > 15) {
                due.edgeThrows(x, i, 2);
                due.edgeThrows(x, i, 3);
            } else {
                long[] odds = circuit.odds(edge.getValue());
                due.is(where + ": edge(" + i + ", 2)", x.edge(i, 2), odds[0]);
                due.is(where + ": edge(" + i + ", 3)", x.edge(i, 3), odds[1]);
            }
            i++;
        }
        due.is(where + ": edge(" + i + ", 0)", x.edge(i, 0), -1);
    }

    void compareRun(Tried x, Circuit circuit, long faults, long tells, long randoms,
            String where) {
        long changed = 0L;
        for (int f = 0; f < circuit.faults(); f++) {
            changed ^= (faults >>> f & 1) != 0 ? circuit.changed(f) : 0L;
        }
        String call = where + ": run(" + faults + ", " + tells + ")";
        long told = x.run(faults, tells);
        due.is(call, told, circuit.sample(tells, new long[1]) ^ changed);
        due.is(call + " can happen", circuit.leastOdds(told, faults, randoms) > 0.9, true);
    }
}
