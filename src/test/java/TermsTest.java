import java.util.List;
import java.util.Random;
import java.util.function.Consumer;

/** The document's terms about wires, acts, looks and faults, words by words. */
public final class TermsTest {
    private static final Due DUE = new Due();
    private static final Limits LIMITS = new Limits(DUE);
    private static final Oracle ORACLE = new Oracle(DUE);
    private static final int H = 0;
    private static final int S = 1;
    private static final int CX = 2;
    private static final int CZ = 3;
    private static final int SWAP = 4;
    private static final int X = 5;
    private static final int Z = 6;
    /** Gates that bring a wire of 0 into its six states, and three that turn what a look asks for. */
    private static final int[][] STATES = {{}, {X}, {H}, {X, H}, {H, S}, {X, H, S}};
    private static final int[][] TURNS = {{}, {H}, {S, H}};

    public static void main(String[] args) {
        acts();
        gates();
        looksAndResets();
        faultsAreActs();
        faultsHappenOrNot();
        numbers();
        turnsOfH();
        turnsOfS();
        lookTellsZeroOrOne();
        lookTellsAgain();
        randomOrTold();
        outcomes();
        outcomesOfRandomOnes();
        faultsGoThroughGates();
        signsOfFaults();
        gatesThatChangeNoFault();
        changedLooks();
        zGoesAtLooks();
        xGoesAtResets();
        DUE.end();
    }

    private static void acts() {
        DUE.of("ACTS, at most 300:");
        Random random = new Random(1);
        Circuit circuit = new Circuit(4);
        while (circuit.acts.size() < 300) {
            int a = random.nextInt(4);
            int kind = random.nextInt(7);
            circuit.add(circuit.acts.size() % 7 == 0 ? 7 + random.nextInt(2) : kind, a, (a + 1) % 4);
        }
        Tried x = circuit.built();
        DUE.totals("300 acts", x, 4, 300, 43, 0, 0, 0);
        DUE.is("gate", x.gate(X, 0, 0), false);
        DUE.none("look", x.look(0, false));
        DUE.none("reset", x.look(0, true));
        DUE.none("fault", x.fault(0, 0, 1));
        DUE.totals("300 acts still", x, 4, 300, 43, 0, 0, 0);
    }

    private static void gates() {
        DUE.of("GATES 0 h a,");
        asOnAmplitudes(H);
        DUE.of("1 s a,");
        asOnAmplitudes(S);
        DUE.of("2 x b with CONTROL a,");
        asOnAmplitudes(CX);
        DUE.of("3 z b with CONTROL a,");
        asOnAmplitudes(CZ);
        DUE.of("4 a and b change places,");
        asOnAmplitudes(SWAP);
        DUE.of("5 x a,");
        asOnAmplitudes(X);
        DUE.of("6 z a;");
        asOnAmplitudes(Z);
    }

    private static void looksAndResets() {
        DUE.of("7 a LOOK at a (measured),");
        asOnAmplitudes(Circuit.LOOK);
        DUE.of("8 a RESET of a (a LOOK at a, then x if it told 1);");
        asOnAmplitudes(Circuit.RESET);
        resetIsLookAndX();
    }

    /** The act on each two of three wires, in all their states, the third tied to the first or not. */
    private static void asOnAmplitudes(int kind) {
        for (int pair = 0; pair < 9; pair++) {
            if (pair / 3 != pair % 3) {
                for (int state = 0; state < 2 * STATES.length * STATES.length; state++) {
                    asOnAmplitudes(kind, pair / 3, pair % 3, state);
                }
            }
        }
    }

    private static void asOnAmplitudes(int kind, int a, int b, int state) {
        int c = 3 - a - b;
        for (int[] turnA : TURNS) {
            for (int[] turnB : TURNS) {
                Circuit circuit = new Circuit(3);
                if (state % 2 == 1) {
                    circuit.add(H, c, 0).add(CX, c, a);
                }
                addAll(circuit, STATES[state / 2 % 6], a);
                addAll(circuit, STATES[state / 12], b);
                circuit.add(kind, a, b);
                addAll(circuit, turnA, a);
                addAll(circuit, turnB, b);
                addAll(circuit, turnA, c);
                circuit.add(Circuit.LOOK, a, 0).add(Circuit.LOOK, b, 0).add(Circuit.LOOK, c, 0);
                ORACLE.compareOutcomes(circuit.built(), circuit, "act " + kind + ", state " + state);
            }
        }
    }

    private static void addAll(Circuit circuit, int[] kinds, int a) {
        for (int kind : kinds) {
            circuit.add(kind, a, 0);
        }
    }

    /** Where it's known what a look tells, a reset is the look and that x. */
    private static void resetIsLookAndX() {
        for (int told = 0; told <= 1; told++) {
            int known = told;
            LIMITS.comeToTheSame(x -> {
                x.begin(2);
                x.gate(known == 1 ? X : Z, 1, 0);
                x.look(1, true);
                x.gate(Z, 1, 0);
                x.gate(Z, 1, 0);
            }, x -> {
                x.begin(2);
                x.gate(known == 1 ? X : Z, 1, 0);
                x.look(1, false);
                x.gate(known == 1 ? X : Z, 1, 0);
                x.gate(Z, 1, 0);
            });
        }
    }

    private static void faultsAreActs() {
        DUE.of("FAULTS (40 at most):");
        Tried x = new Tried();
        x.begin(4);
        for (int i = 0; i < 40; i++) {
            DUE.is("acts", x.total(1), 2 * i);
            DUE.is("fault", x.fault(i % 3, i % 4, i % 17), i);
            DUE.is("gate between", x.gate(i % 7, i % 4, (i + 1) % 4), true);
        }
        for (int what = 0; what <= 2; what++) {
            DUE.none("fault 40", x.fault(what, 0, 0));
        }
        DUE.totals("40 faults", x, 4, 80, 0, 40, 0, 0);
    }

    /** A fault that happens is its gates in its place; one that doesn't is nothing. */
    private static void faultsHappenOrNot() {
        DUE.of("x, y or z (0 .. 2) of a WIRE happens, or not.");
        for (int seed = 0; seed < 300; seed++) {
            Random random = new Random(seed);
            Circuit circuit = Circuit.byChance(random, 1 + seed % 4, 10 + seed % 30, Circuit.FAULT);
            Tried x = circuit.built();
            long[] randoms = new long[1];
            circuit.sample(0L, randoms);
            for (int i = 0; i < 4; i++) {
                long happen = random.nextLong() & Limits.all(circuit.faults());
                long told = x.run(happen, random.nextLong());
                double odds = withGates(circuit, happen).leastOdds(told, 0L, randoms[0]);
                DUE.is("seed " + seed + ": it can be told so", odds > 0.99, true);
            }
        }
    }

    private static Circuit withGates(Circuit circuit, long happen) {
        Circuit other = new Circuit(circuit.wires);
        int fault = 0;
        for (int[] act : circuit.acts) {
            if (act[0] != Circuit.FAULT) {
                other.add(act[0], act[1], act[2]);
                continue;
            }
            if ((happen >>> fault & 1) != 0) {
                addAll(other, new int[][] {{X}, {X, Z}, {Z}}[act[2]], act[1]);
            }
            fault++;
        }
        return other;
    }

    private static void numbers() {
        DUE.of("LOOKS (of RESETS, too) are numbered from 0 on, 60 at most, FAULTS likewise.");
        Tried x = new Tried();
        x.begin(3);
        for (int i = 0; i < 60; i++) {
            DUE.is("look or reset", x.look(i % 3, i % 4 < 2), i);
            DUE.is("fault", x.fault(i % 3, 2 - i % 3, 0), i < 40 ? i : -1);
        }
        DUE.none("look 60", x.look(0, false));
        DUE.none("reset 60", x.look(0, true));
        DUE.totals("all", x, 3, 100, 60, 40, 0, 0);
    }

    private static Consumer<Tried> someAnd(int... calls) {
        return x -> {
            Limits.some(x);
            for (int i = 0; i + 1 < calls.length; i += 2) {
                gateOrFault(x, calls[i], calls[i + 1]);
            }
        };
    }

    /** Kinds 10, 11, 12: a fault x, y, z. */
    private static void gateOrFault(Tried x, int kind, int a) {
        if (kind >= 10) {
            x.fault(kind - 10, a, 5);
        } else {
            x.gate(kind, a, 0);
        }
    }

    private static void turnsOfH() {
        DUE.of("(h turns x into z and z into x,");
        for (int a = 0; a < 3; a++) {
            LIMITS.comeToTheSame(someAnd(X, a, H, a), someAnd(H, a, Z, a));
            LIMITS.comeToTheSame(someAnd(Z, a, H, a), someAnd(H, a, X, a));
            LIMITS.comeToTheSame(someAnd(10, a, H, a), someAnd(H, a, 12, a));
            LIMITS.comeToTheSame(someAnd(12, a, H, a), someAnd(H, a, 10, a));
            LIMITS.comeToTheSame(someAnd(11, a, H, a), someAnd(H, a, 11, a));
        }
    }

    private static void turnsOfS() {
        DUE.of("s x into y.");
        for (int a = 0; a < 3; a++) {
            // Gates that come to nothing (s s z, and h h) make both ways equally long.
            LIMITS.comeToTheSame(someAnd(X, a, S, a, S, a, S, a, Z, a), someAnd(S, a, X, a, Z, a, H, a, H, a));
            LIMITS.comeToTheSame(someAnd(10, a, S, a), someAnd(S, a, 11, a));
            LIMITS.comeToTheSame(someAnd(11, a, S, a), someAnd(S, a, 10, a));
            LIMITS.comeToTheSame(someAnd(12, a, S, a), someAnd(S, a, 12, a));
        }
        Tried x = new Tried();
        for (int kind : new int[] {H, S, S, H}) {
            x.gate(kind, 0, 0);
        }
        x.look(0, false);
        DUE.is("x into y, y into minus x", x.outcome(0, 0), 1);
        DUE.is("of no random look", x.outcome(0, 1), 0);
    }

    private static void lookTellsZeroOrOne() {
        DUE.of("A LOOK tells 0 or 1;");
        for (int seed = 0; seed < 100; seed++) {
            Random random = new Random(seed);
            Circuit circuit = Circuit.byChance(random, 1 + seed % 5, 60, Circuit.FAULT);
            Tried x = circuit.built();
            for (int i = 0; i < circuit.looks(); i++) {
                DUE.is("seed " + seed + ": 0 or 1", x.outcome(i, 0) >>> 1, 0);
            }
            long told = x.run(random.nextLong() & Limits.all(circuit.faults()), random.nextLong());
            DUE.is("seed " + seed + ": looks alone", told & ~Limits.all(circuit.looks()), 0);
        }
    }

    private static void lookTellsAgain() {
        DUE.of("what it told it tells again, if asked at once.)");
        for (int seed = 0; seed < 200; seed++) {
            Tried x = Circuit.byChance(new Random(seed), 1 + seed % 5, 40, 6).built();
            for (int a = 0; a <= seed % 5; a++) {
                x.look(a, false);
                x.look(a, seed % 2 == 0);
                for (int what = 0; what <= 1; what++) {
                    DUE.is("seed " + seed, x.outcome(2 * a + 1, what), x.outcome(2 * a, what));
                }
            }
        }
    }

    private static Circuit withoutFaults(int seed) {
        return Circuit.byChance(new Random(seed), 1 + seed % 4, 20 + seed % 40, Circuit.RESET);
    }

    /** What random looks may tell: all cases of few, some of many. */
    private static long[] cases(Circuit circuit) {
        Random random = new Random(circuit.acts.size());
        long[] tells = new long[1 << Math.min(circuit.looks(), 6)];
        for (int i = 0; i < tells.length; i++) {
            tells[i] = circuit.looks() <= 6 ? i : random.nextLong();
        }
        return tells;
    }

    private static void randomOrTold() {
        DUE.of("Without FAULTS a LOOK is either RANDOM (0 and 1 come up alike often, whatever was told"
            + " before), or TOLD by those before:");
        for (int seed = 0; seed < 200; seed++) {
            Circuit circuit = withoutFaults(seed);
            Tried x = circuit.built();
            long randoms = 0L;
            for (int i = 0; i < circuit.looks(); i++) {
                long set = x.outcome(i, 1);
                randoms |= set & 1L << i;
                DUE.is("seed " + seed + ": random ones before, if not itself", set & ~(randoms), 0);
            }
            long[] seen = new long[1];
            for (long tells : cases(circuit)) {
                circuit.sample(tells, seen);
                DUE.is("seed " + seed + ": the same ones are random", seen[0], randoms);
                DUE.is("seed " + seed + ": a half, or sure", circuit.furthest < 1e-9, true);
            }
        }
    }

    private static void outcomes() {
        DUE.of("its OUTCOME is the exclusive or of a constant and of what some RANDOM LOOKS told");
        for (int seed = 0; seed < 200; seed++) {
            Circuit circuit = withoutFaults(seed);
            Tried x = circuit.built();
            for (long tells : cases(circuit)) {
                long told = circuit.sample(tells, new long[1]);
                for (int i = 0; i < circuit.looks(); i++) {
                    long odd = Long.bitCount(x.outcome(i, 1) & told) & 1;
                    DUE.is("seed " + seed + ": look " + i, x.outcome(i, 0) ^ odd, told >>> i & 1);
                }
            }
        }
    }

    private static void outcomesOfRandomOnes() {
        DUE.of("(of a RANDOM one: of itself alone, constant 0).");
        for (int seed = 0; seed < 200; seed++) {
            Circuit circuit = withoutFaults(seed);
            Tried x = circuit.built();
            long[] randoms = new long[1];
            circuit.sample(-1L, randoms);
            for (int i = 0; i < circuit.looks(); i++) {
                if ((randoms[0] >>> i & 1) != 0) {
                    DUE.is("seed " + seed + ": constant", x.outcome(i, 0), 0);
                    DUE.is("seed " + seed + ": itself", x.outcome(i, 1), 1L << i);
                }
            }
        }
    }

    /** Of each gate with two wires a (1) and b (2): what x a, z a, x b, z b become, as x's and z's. */
    private static final int[][] BEHIND = {
        {0, 1, 1, 0, 2, 0, 0, 2},
        {1, 1, 0, 1, 2, 0, 0, 2},
        {3, 0, 0, 1, 2, 0, 0, 3},
        {1, 2, 0, 1, 2, 1, 0, 2},
        {2, 0, 0, 2, 1, 0, 0, 1},
        {1, 0, 0, 1, 2, 0, 0, 2},
        {1, 0, 0, 1, 2, 0, 0, 2},
    };

    private static void faultsGoThroughGates() {
        DUE.of("A FAULT CHANGES LOOKS: x's and z's go on through the GATES behind it");
        for (int kind = H; kind <= Z; kind++) {
            int[] row = BEHIND[kind];
            for (int pair = 0; pair < 9; pair++) {
                int a = pair / 3;
                int b = pair % 3;
                if (a != b) {
                    faultThrough(kind, a, b, 0, a, row[0], row[1]);
                    faultThrough(kind, a, b, 2, a, row[2], row[3]);
                    faultThrough(kind, a, b, 1, a, row[0] ^ row[2], row[1] ^ row[3]);
                    faultThrough(kind, a, b, 0, b, row[4], row[5]);
                    faultThrough(kind, a, b, 2, b, row[6], row[7]);
                    faultThrough(kind, a, b, 1, b, row[4] ^ row[6], row[5] ^ row[7]);
                    faultThrough(kind, a, b, 0, 3 - a - b, 4, 0);
                    faultThrough(kind, a, b, 2, 3 - a - b, 0, 4);
                }
            }
        }
    }

    private static void faultThrough(int kind, int a, int b, int what, int wire, int xs, int zs) {
        String where = "fault " + what + " of " + wire + " through " + kind + " of " + a + ", " + b;
        for (int turn = 0; turn <= 1; turn++) {
            Tried x = new Tried();
            x.begin(3);
            x.fault(what, wire, 1);
            x.gate(kind, a, b);
            int[] wires = {a, b, 3 - a - b};
            for (int i = 0; i < 3; i++) {
                x.gate(turn == 1 ? H : X, wires[i], 0);
                x.look(wires[i], false);
            }
            DUE.is(where, x.changes(0, 0), turn == 1 ? zs : xs);
        }
    }

    private static void signsOfFaults() {
        DUE.of("(a sign counts for nothing;");
        // h turns y into minus y, s s turns x into minus x, and h s s h z into minus z.
        List<int[]> turns = List.of(new int[] {H}, new int[] {S, S}, new int[] {H, S, S, H});
        for (int i = 0; i < turns.size(); i++) {
            int what = new int[] {1, 0, 2}[i];
            for (int[] turn : TURNS) {
                Circuit plus = new Circuit(1).addFault(what, 0, 1);
                addAll(plus, turn, 0);
                Circuit minus = new Circuit(1).addFault(what, 0, 1);
                addAll(minus, turns.get(i), 0);
                addAll(minus, turn, 0);
                long changed = plus.add(Circuit.LOOK, 0, 0).built().changes(0, 0);
                DUE.is("minus", minus.add(Circuit.LOOK, 0, 0).built().changes(0, 0), changed);
            }
        }
    }

    private static void gatesThatChangeNoFault() {
        DUE.of("x a and z a change nothing);");
        for (int seed = 0; seed < 200; seed++) {
            Random random = new Random(seed);
            Circuit circuit = Circuit.byChance(random, 1 + seed % 4, 40, Circuit.FAULT);
            Circuit more = new Circuit(circuit.wires);
            for (int[] act : circuit.acts) {
                more.acts.add(act);
                more.add(X + random.nextInt(2), random.nextInt(circuit.wires), 0);
            }
            Tried x = circuit.built();
            Tried y = more.built();
            for (int f = 0; f < circuit.faults(); f++) {
                DUE.is("seed " + seed + ": fault " + f, y.changes(f, 0), x.changes(f, 0));
            }
        }
    }

    /** x, y and z of a wire with the same acts behind each: the looks changed by each. */
    private static void changed(String where, Consumer<Tried> behind, long byX, long byY, long byZ) {
        Tried x = new Tried();
        x.begin(2);
        for (int what = 0; what <= 2; what++) {
            x.fault(what, 0, 1);
        }
        behind.accept(x);
        DUE.is(where + ": x", x.changes(0, 0), byX);
        DUE.is(where + ": y", x.changes(1, 0), byY);
        DUE.is(where + ": z", x.changes(2, 0), byZ);
    }

    private static void changedLooks() {
        DUE.of("a LOOK at a WIRE with an x is CHANGED,");
        changed("at once", x -> x.look(0, false), 1, 1, 0);
        changed("another wire", x -> x.look(1, false), 0, 0, 0);
        changed("again and again", x -> {
            x.look(0, false);
            x.look(1, false);
            x.look(0, false);
        }, 5, 5, 0);
        changed("a random look", x -> {
            x.gate(H, 1, 0);
            x.gate(CX, 1, 0);
            x.look(0, false);
            x.look(1, false);
        }, 1, 1, 0);
    }

    private static void zGoesAtLooks() {
        DUE.of("its z goes;");
        changed("seen behind h", x -> {
            x.look(0, false);
            x.gate(H, 0, 0);
            x.look(0, false);
        }, 1, 1, 0);
        changed("not at a look at another wire", x -> {
            x.look(1, false);
            x.gate(H, 0, 0);
            x.look(0, false);
        }, 0, 2, 2);
        changed("not that of another wire", x -> {
            x.gate(CZ, 0, 1);
            x.look(0, false);
            x.gate(H, 1, 0);
            x.look(1, false);
        }, 3, 3, 0);
    }

    private static void xGoesAtResets() {
        DUE.of("a RESET, too, and its x goes.");
        changed("changed once", x -> {
            x.look(0, true);
            x.look(0, false);
            x.gate(H, 0, 0);
            x.look(0, true);
            x.look(0, false);
        }, 1, 1, 0);
        changed("not at a reset of another wire", x -> {
            x.look(1, true);
            x.look(0, false);
        }, 2, 2, 0);
        changed("not that of another wire", x -> {
            x.gate(CX, 0, 1);
            x.look(0, true);
            x.look(1, false);
            x.look(0, false);
        }, 3, 3, 0);
        changed("its z, too", x -> {
            x.look(0, true);
            x.gate(H, 0, 0);
            x.look(0, false);
        }, 1, 1, 0);
    }
}
