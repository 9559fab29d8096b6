import java.util.Random;

/** The document's terms about checks, odds and edges, words by words. */
public final class ChecksTest {
    private static final Due DUE = new Due();
    private static final int CIRCUITS = 150;

    public static void main(String[] args) {
        setsOfLooks();
        sixteenChecks();
        sureChecks();
        oddsOfOneFault();
        edges();
        orderOfEdges();
        oddsOfEdges();
        leastExponents();
        DUE.end();
    }

    /** A circuit with faults, and checks of few of its looks, so that some faults change the same. */
    private static Circuit withChecks(int seed) {
        Random random = new Random(seed);
        Circuit circuit = Circuit.byChance(random, 1 + seed % 4, 60 + seed % 60, Circuit.FAULT);
        for (int i = 0; i < 1 + seed % 16; i++) {
            circuit.checks.add(random.nextLong() & random.nextLong() & Limits.all(circuit.looks()));
        }
        return circuit;
    }

    private static void setsOfLooks() {
        DUE.of("A CHECK is a set of LOOKS (LOOK i is 2^i;");
        for (int first = 0; first < 60; first += 15) {
            Tried x = new Tried();
            for (int i = 0; i < 60; i++) {
                x.gate(0, 0, 0);
                x.look(0, false);
            }
            for (int i = 0; i < 15; i++) {
                DUE.is("check", x.check(1L << first + i), i);
                DUE.is("look " + (first + i) + " alone", x.told(i, 2), 1L << first + i);
            }
            DUE.is("all of these", x.check(Limits.all(15) << first), 15);
            DUE.is("all of these", x.told(15, 2), Limits.all(15) << first);
        }
    }

    private static void sixteenChecks() {
        DUE.of("16 CHECKS at most).");
        Tried x = new Tried();
        x.look(0, false);
        for (int i = 0; i < 16; i++) {
            DUE.is("check", x.check(i % 2), i);
        }
        DUE.none("check 16", x.check(0L));
        DUE.none("check 16", x.check(1L));
        DUE.totals("16 checks", x, 1, 1, 1, 0, 16, 0);
        DUE.is("a begin", x.begin(1), true);
        DUE.is("check 0 again", x.check(0L), 0);
    }

    private static void sureChecks() {
        DUE.of("SURE is a CHECK if the exclusive or of its LOOKS' OUTCOMES hangs on no RANDOM one.");
        int sure = 0;
        for (int seed = 0; seed < CIRCUITS; seed++) {
            Circuit circuit = withChecks(seed);
            Tried x = circuit.built();
            for (int c = 0; c < circuit.checks.size(); c++) {
                long hangs = 0L;
                for (int i = 0; i < circuit.looks(); i++) {
                    hangs ^= (circuit.checks.get(c) >>> i & 1) != 0 ? x.outcome(i, 1) : 0L;
                }
                DUE.is("seed " + seed + ": check " + c, x.told(c, 0), hangs == 0L ? 1 : 0);
                DUE.is("seed " + seed + ": as runs tell it", x.told(c, 0), isSureInRuns(x, circuit, c) ? 1 : 0);
                sure += hangs == 0L ? 1 : 0;
            }
        }
        DUE.is("some are sure", sure > 20, true);
    }

    /** A check that is the same whichever random look tells 1. */
    private static boolean isSureInRuns(Tried x, Circuit circuit, int check) {
        long looks = circuit.checks.get(check);
        int constant = Long.bitCount(x.run(0L, 0L) & looks) & 1;
        for (int i = 0; i < circuit.looks(); i++) {
            if ((Long.bitCount(x.run(0L, 1L << i) & looks) & 1) != constant) {
                return false;
            }
        }
        return true;
    }

    private static void oddsOfOneFault() {
        DUE.of("A FAULT has odds k / 16 (k 0 .. 16).");
        for (int k = 0; k <= 16; k++) {
            Tried x = new Tried();
            DUE.is("fault", x.fault(0, 0, k), 0);
            x.look(0, false);
            x.check(1L);
            DUE.is("u / 2^e is " + k + " / 16", x.edge(0, 2) * 16L, (long) k << x.edge(0, 3));
        }
        Tried x = new Tried();
        DUE.none("k -1", x.fault(0, 0, -1));
        DUE.none("k 17", x.fault(0, 0, 17));
    }

    private static void edges() {
        DUE.of("EDGES: all FAULTS that CHANGE an odd number of LOOKS of just the same CHECKS (one at"
            + " least), together;");
        int together = 0;
        for (int seed = 0; seed < CIRCUITS; seed++) {
            Circuit circuit = withChecks(seed);
            Tried x = circuit.built();
            long[] edgesOf = new long[circuit.faults()];
            for (int i = 0; i < x.total(5); i++) {
                long faults = x.edge(i, 1);
                together += Long.bitCount(faults) > 1 ? 1 : 0;
                for (int f = 0; f < circuit.faults(); f++) {
                    boolean same = oddChecks(x, circuit, f) == x.edge(i, 0);
                    DUE.is("seed " + seed + ": edge " + i + ", fault " + f, (faults >>> f & 1) != 0, same);
                    edgesOf[f] += faults >>> f & 1;
                }
            }
            for (int f = 0; f < circuit.faults(); f++) {
                DUE.is("seed " + seed + ": edges of fault " + f, edgesOf[f],
                    oddChecks(x, circuit, f) == 0L ? 0 : 1);
            }
        }
        DUE.is("some have more than one fault", together > 20, true);
    }

    private static long oddChecks(Tried x, Circuit circuit, int fault) {
        long looks = x.changes(fault, 0);
        long odd = 0L;
        for (int c = 0; c < circuit.checks.size(); c++) {
            odd |= (long) (Long.bitCount(looks & circuit.checks.get(c)) & 1) << c;
        }
        return odd;
    }

    private static void orderOfEdges() {
        DUE.of("in the order of their first FAULTS.");
        for (int seed = 0; seed < CIRCUITS; seed++) {
            Tried x = withChecks(seed).built();
            int before = -1;
            for (int i = 0; i < x.total(5); i++) {
                int first = Long.numberOfTrailingZeros(x.edge(i, 1));
                DUE.is("seed " + seed + ": edge " + i + " is behind the one before", first > before, true);
                before = first;
            }
            DUE.none("seed " + seed + ": none behind the last", x.edge(x.total(5), 1));
        }
    }

    /** Each set of an edge's faults happens in a run, and its cases are counted if the checks change. */
    private static void oddsOfEdges() {
        DUE.of("Its odds: that an odd number of its FAULTS happens; each happens or not, whatever others do:");
        Random random = new Random(7);
        for (int count = 1; count <= 6; count++) {
            for (int tries = 0; tries < 10; tries++) {
                int[] odds = new int[count];
                Tried x = new Tried();
                for (int i = 0; i < count; i++) {
                    odds[i] = random.nextInt(17);
                    x.fault(random.nextInt(2), 0, odds[i]);
                }
                x.look(0, false);
                x.check(1L);
                long cases = 0L;
                for (int set = 0; set < 1 << count; set++) {
                    cases += x.run(set, 0L) == 1L ? casesOf(set, odds) : 0L;
                }
                DUE.is("odds", x.edge(0, 2) << 4 * count, cases << x.edge(0, 3));
            }
        }
    }

    /** Of 16 to the number of faults: the cases in which just these happen. */
    private static long casesOf(int set, int[] odds) {
        long cases = 1L;
        for (int i = 0; i < odds.length; i++) {
            cases *= (set >> i & 1) != 0 ? odds[i] : 16 - odds[i];
        }
        return cases;
    }

    private static void leastExponents() {
        DUE.of("u / 2^e, with the least e, 0 or more.");
        for (int seed = 0; seed < CIRCUITS; seed++) {
            Circuit circuit = withChecks(seed);
            Tried x = circuit.built();
            for (int i = 0; i < x.total(5); i++) {
                if (Long.bitCount(x.edge(i, 1)) > 15) {
                    continue;
                }
                long u = x.edge(i, 2);
                long e = x.edge(i, 3);
                long[] odds = circuit.odds(x.edge(i, 1));
                DUE.is("seed " + seed + ": u", u, odds[0]);
                DUE.is("seed " + seed + ": e", e, odds[1]);
                DUE.is("seed " + seed + ": no less", e == 0 || u % 2 == 1, true);
                DUE.is("seed " + seed + ": 0 .. 1", e >= 0 && u >= 0 && u <= 1L << e, true);
            }
        }
    }
}
