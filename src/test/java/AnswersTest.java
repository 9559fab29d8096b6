import java.math.BigInteger;

/** Promises 7 to 11: what is told of looks, checks, faults, edges and runs, by hand. */
public final class AnswersTest {
    private static final Due DUE = new Due();
    private static final int H = 0;
    private static final int S = 1;
    private static final int CX = 2;
    private static final int CZ = 3;
    private static final int SWAP = 4;
    private static final int X = 5;
    private static final int Z = 6;

    public static void main(String[] args) {
        outcomeOfGates();
        outcomeOfSigns();
        outcomeOfResets();
        outcomeOfPairs();
        told();
        changesThroughGates();
        changesAtLooks();
        changesOfChecks();
        edgesTogether();
        edgeOdds();
        edgeWithManyFaults();
        run();
        wrongNumbers();
        DUE.end();
    }

    private static Tried circuit(int n, int... gates) {
        Tried x = new Tried();
        x.begin(n);
        add(x, gates);
        return x;
    }

    /** Gates as triples of kind, a, b. */
    private static void add(Tried x, int... gates) {
        for (int i = 0; i + 2 < gates.length; i += 3) {
            DUE.is("gate", x.gate(gates[i], gates[i + 1], gates[i + 2]), true);
        }
    }

    private static void outcome(String what, Tried x, int look, long constant, long randoms) {
        DUE.is(what + ": constant", x.outcome(look, 0), constant);
        DUE.is(what + ": randoms", x.outcome(look, 1), randoms);
    }

    private static void looks(String what, int n, long want, int... gates) {
        Tried x = circuit(n, gates);
        for (int a = 0; a < n; a++) {
            x.look(a, false);
            outcome(what + ", wire " + a, x, a, want >>> a & 1, 0L);
        }
    }

    private static void outcomeOfGates() {
        DUE.of("Of a LOOK's OUTCOME, what 0: the constant, 1: the set of RANDOM LOOKS.", "sure looks");
        looks("nothing", 3, 0);
        looks("x", 2, 2, X, 1, 0);
        looks("z", 2, 0, Z, 1, 0);
        looks("s", 1, 1, X, 0, 0, S, 0, 0);
        looks("control 0", 2, 0, CX, 0, 1);
        looks("control 1", 2, 3, X, 0, 0, CX, 0, 1);
        looks("target 1", 2, 2, X, 1, 0, CX, 0, 1);
        looks("control behind target", 3, 5, X, 2, 0, CX, 2, 0);
        looks("swap", 3, 4, X, 0, 0, SWAP, 0, 2);
        looks("controlled z alone", 2, 3, X, 0, 0, X, 1, 0, CZ, 0, 1);
    }

    private static void outcomeOfSigns() {
        DUE.of("Of a LOOK's OUTCOME, what 0: the constant, 1: the set of RANDOM LOOKS.", "signs");
        looks("h h", 1, 0, H, 0, 0, H, 0, 0);
        looks("h z h", 1, 1, H, 0, 0, Z, 0, 0, H, 0, 0);
        looks("h x h", 1, 0, H, 0, 0, X, 0, 0, H, 0, 0);
        looks("h s s h", 1, 1, H, 0, 0, S, 0, 0, S, 0, 0, H, 0, 0);
        looks("h s z s h", 1, 0, H, 0, 0, S, 0, 0, Z, 0, 0, S, 0, 0, H, 0, 0);
        looks("h s x s h", 1, 0, H, 0, 0, S, 0, 0, X, 0, 0, S, 0, 0, H, 0, 0);
        looks("h s h s h", 1, 0, H, 0, 0, S, 0, 0, H, 0, 0, S, 0, 0, H, 0, 0);
        looks("z is handed to the control", 2, 3, X, 1, 0, H, 0, 0, H, 1, 0, CX, 0, 1, H, 0, 0, H, 1, 0);
        looks("controlled z as controlled x", 2, 3, X, 0, 0, H, 1, 0, CZ, 0, 1, H, 1, 0);
        looks("controlled z the other way", 2, 3, X, 0, 0, H, 1, 0, CZ, 1, 0, H, 1, 0);
    }

    private static void outcomeOfResets() {
        DUE.of("Of a LOOK's OUTCOME, what 0: the constant, 1: the set of RANDOM LOOKS.", "resets");
        Tried x = circuit(2, H, 0, 0);
        DUE.is("reset", x.look(0, true), 0);
        x.look(0, false);
        add(x, X, 0, 0);
        x.look(0, true);
        x.look(0, false);
        add(x, H, 0, 0);
        x.look(0, false);
        x.look(0, true);
        x.look(0, true);
        outcome("random reset", x, 0, 0, 1);
        outcome("behind it", x, 1, 0, 0);
        outcome("reset of 1", x, 2, 1, 0);
        outcome("behind that", x, 3, 0, 0);
        outcome("random again", x, 4, 0, 1 << 4);
        outcome("reset as told", x, 5, 0, 1 << 4);
        outcome("0 now", x, 6, 0, 0);
    }

    private static void outcomeOfPairs() {
        DUE.of("Of a LOOK's OUTCOME, what 0: the constant, 1: the set of RANDOM LOOKS.", "wires tied together");
        Tried x = circuit(3, H, 0, 0, CX, 0, 1, CX, 1, 2, X, 1, 0);
        x.look(2, true);
        x.look(1, false);
        x.look(0, true);
        x.look(2, false);
        x.look(0, false);
        outcome("first of three", x, 0, 0, 1);
        outcome("the other one", x, 1, 1, 1);
        outcome("the same", x, 2, 0, 1);
        outcome("reset", x, 3, 0, 0);
        outcome("reset likewise", x, 4, 0, 0);
        add(x, H, 0, 0, H, 2, 0);
        x.look(0, false);
        x.look(2, false);
        add(x, CX, 0, 2, CX, 1, 2, X, 2, 0);
        x.look(2, false);
        outcome("two and one random ones", x, 7, 0, 1 | 1 << 5 | 1 << 6);
        handedOver();
    }

    /** A state handed over by two looks, with what they told made good by later gates. */
    private static void handedOver() {
        Tried x = circuit(3, X, 0, 0, H, 1, 0, CX, 1, 2, CX, 0, 1, H, 0, 0);
        x.look(0, false);
        x.look(1, false);
        x.look(2, false);
        outcome("x part", x, 0, 0, 1);
        outcome("z part", x, 1, 0, 2);
        outcome("handed over", x, 2, 1, 2);
    }

    private static void told() {
        DUE.of("Of a CHECK, what 0: 1 if it is SURE, else 0, 1: the exclusive or of its constants,"
            + " 2: the set of RANDOM LOOKS it hangs on.");
        Tried x = circuit(3, H, 0, 0, CX, 0, 1, X, 1, 0, H, 2, 0);
        for (int a = 0; a < 3; a++) {
            x.look(a, false);
        }
        long[] sets = {0, 1, 2, 3, 4, 5, 6, 7};
        long[] constants = {0, 0, 1, 1, 0, 0, 1, 1};
        long[] randoms = {0, 1, 1, 0, 4, 5, 5, 4};
        for (int i = 0; i < sets.length; i++) {
            DUE.is("check", x.check(sets[i]), i);
        }
        for (int i = 0; i < sets.length; i++) {
            DUE.is("sure " + i, x.told(i, 0), randoms[i] == 0 ? 1 : 0);
            DUE.is("constant " + i, x.told(i, 1), constants[i]);
            DUE.is("randoms " + i, x.told(i, 2), randoms[i]);
        }
    }

    /** The looks that x, y and z of wire 0 change if these gates and looks at all wires follow. */
    private static void changed(String what, int n, long byX, long byY, long byZ, int... gates) {
        Tried x = circuit(n);
        for (int kind = 0; kind < 3; kind++) {
            x.fault(kind, 0, 1);
        }
        add(x, gates);
        for (int a = 0; a < n; a++) {
            x.look(a, false);
        }
        DUE.is(what + ": x", x.changes(0, 0), byX);
        DUE.is(what + ": y", x.changes(1, 0), byY);
        DUE.is(what + ": z", x.changes(2, 0), byZ);
    }

    private static void changesThroughGates() {
        DUE.of("Of a FAULT, what 0: the LOOKS that it CHANGES,", "behind gates");
        changed("nothing", 2, 1, 1, 0);
        changed("h", 1, 0, 1, 1, H, 0, 0);
        changed("h of another", 2, 1, 1, 0, H, 1, 0);
        changed("s", 1, 1, 1, 0, S, 0, 0);
        changed("s h", 1, 1, 0, 1, S, 0, 0, H, 0, 0);
        changed("h s h", 1, 1, 0, 1, H, 0, 0, S, 0, 0, H, 0, 0);
        changed("control", 2, 3, 3, 0, CX, 0, 1);
        changed("target", 2, 1, 1, 0, CX, 1, 0);
        changed("target's z", 2, 0, 3, 3, CX, 1, 0, H, 0, 0, H, 1, 0);
        changed("controlled z", 2, 3, 3, 0, CZ, 0, 1, H, 1, 0);
        changed("controlled z from b", 2, 3, 3, 0, CZ, 1, 0, H, 1, 0);
        changed("swap", 2, 2, 2, 0, SWAP, 0, 1);
        changed("swap's z", 2, 0, 2, 2, SWAP, 1, 0, H, 1, 0);
        changed("x and z", 1, 1, 1, 0, X, 0, 0, Z, 0, 0);
        changed("x and z before h", 1, 0, 1, 1, X, 0, 0, Z, 0, 0, H, 0, 0);
    }

    private static void changesAtLooks() {
        DUE.of("Of a FAULT, what 0: the LOOKS that it CHANGES,", "at looks and resets");
        Tried x = circuit(2);
        x.look(0, false);
        x.fault(0, 0, 1);
        x.fault(1, 0, 1);
        x.fault(2, 0, 1);
        x.look(1, false);
        x.look(0, false);
        x.look(0, false);
        add(x, H, 0, 0);
        x.look(0, false);
        for (int f = 0; f < 2; f++) {
            DUE.is("x stays, z goes", x.changes(f, 0), 4 | 8);
        }
        DUE.is("z alone goes, too", x.changes(2, 0), 0);

        x = circuit(1);
        x.fault(0, 0, 1);
        x.fault(1, 0, 1);
        x.fault(2, 0, 1);
        x.look(0, true);
        x.look(0, false);
        add(x, H, 0, 0);
        x.look(0, false);
        DUE.is("reset: x goes", x.changes(0, 0), 1);
        DUE.is("reset: y goes", x.changes(1, 0), 1);
        DUE.is("reset: z goes", x.changes(2, 0), 0);

        x = circuit(1);
        for (int i = 0; i < 59; i++) {
            x.look(0, false);
        }
        x.fault(0, 0, 1);
        x.look(0, false);
        DUE.is("the last look", x.changes(0, 0), 1L << 59);
    }

    private static void changesOfChecks() {
        DUE.of("1: the CHECKS (an odd number of whose LOOKS it CHANGES), as a set.");
        Tried x = circuit(3);
        x.look(0, false);
        x.check(1L);
        x.fault(0, 0, 1);
        add(x, CX, 0, 1);
        for (int a = 0; a < 3; a++) {
            x.look(a, false);
        }
        DUE.is("before checks", x.changes(0, 1), 0);
        x.check(2L);
        x.check(2L | 4L);
        x.check(4L | 8L);
        x.check(1L | 8L);
        x.look(0, false);
        x.check(2L | 4L | 16L);
        DUE.is("looks", x.changes(0, 0), 2 | 4 | 16);
        DUE.is("checks", x.changes(0, 1), 2 | 8 | 32);
        for (int i = 6; i < 16; i++) {
            x.check(16L);
        }
        DUE.is("all 16", x.changes(0, 1), 0xffff & ~(1 | 4 | 16));
    }

    private static void edge(String what, Tried x, int i, long... wants) {
        for (int k = 0; k < wants.length; k++) {
            DUE.is(what + ": edge(" + i + ", " + k + ")", x.edge(i, k), wants[k]);
        }
    }

    private static void edgesTogether() {
        DUE.of("Of the i-th EDGE, what 0: its CHECKS, as a set, 1: its FAULTS, 2: u of its odds, 3: e.");
        Tried x = circuit(4);
        x.fault(0, 3, 16);
        x.fault(0, 1, 4);
        x.fault(0, 0, 4);
        x.fault(2, 0, 4);
        x.fault(1, 1, 4);
        x.fault(1, 0, 12);
        for (int a = 0; a < 4; a++) {
            x.look(a, false);
        }
        x.check(1L);
        x.check(2L);
        DUE.is("edges", x.total(5), 2);
        edge("wire 1's first", x, 0, 2, 2 | 16, 3, 3);
        edge("wire 0's then", x, 1, 1, 4 | 32, 5, 3);
        x.check(3L);
        x.check(8L);
        DUE.is("edges", x.total(5), 3);
        edge("wire 3's before", x, 0, 8, 1, 1, 0);
        edge("wire 1's", x, 1, 2 | 4, 2 | 16, 3, 3);
        edge("wire 0's", x, 2, 1 | 4, 4 | 32, 5, 3);
        edge("no more", x, 3, -1, -1, -1, -1, -1);
    }

    private static Tried oneEdge(int... odds) {
        Tried x = circuit(1);
        for (int k : odds) {
            x.fault(k % 2, 0, k);
        }
        x.look(0, false);
        x.check(1L);
        return x;
    }

    private static void odds(int... ks) {
        Tried x = oneEdge(ks);
        BigInteger odd = BigInteger.ZERO;
        BigInteger even = BigInteger.ONE;
        for (int k : ks) {
            BigInteger happens = BigInteger.valueOf(k);
            BigInteger not = BigInteger.valueOf(16 - k);
            BigInteger next = odd.multiply(not).add(even.multiply(happens));
            even = even.multiply(not).add(odd.multiply(happens));
            odd = next;
        }
        int e = 4 * ks.length;
        while (e > 0 && !odd.testBit(0)) {
            odd = odd.shiftRight(1);
            e--;
        }
        edge("odds of " + ks.length, x, 0, 1, (1L << ks.length) - 1, odd.longValueExact(), e);
    }

    private static void edgeOdds() {
        DUE.of("2: u of its odds, 3: e.");
        for (int k = 0; k <= 16; k++) {
            odds(k);
            for (int j = 0; j <= 16; j++) {
                odds(k, j);
            }
        }
        odds(1, 2, 3, 5, 7);
        odds(0, 0, 0, 0);
        odds(16, 16, 16);
        odds(16, 16, 16, 16);
        odds(1, 1, 1, 1, 1, 1, 1, 1, 1, 1, 1, 1, 1, 1, 1);
        odds(15, 15, 15, 15, 15, 15, 15, 15, 15, 15, 15, 15, 15, 15, 15);
        odds(15, 1, 15, 3, 15, 5, 15, 7, 15, 9, 11, 13, 15, 1, 3);
        odds(16, 16, 16, 16, 16, 16, 16, 16, 16, 16, 16, 16, 16, 16, 16);
        odds(16, 16, 16, 16, 16, 16, 16, 16, 16, 16, 16, 16, 16, 16, 0);
        odds(0, 0, 0, 0, 0, 0, 0, 0, 0, 0, 0, 0, 0, 0, 0);
        odds(1, 3, 5, 7, 9, 11, 13, 15, 1, 3, 5, 7, 9, 11, 8);
        edge("half", oneEdge(8), 0, 1, 1, 1, 1);
        edge("one of 16", oneEdge(1), 0, 1, 1, 1, 4);
        edge("never", oneEdge(0), 0, 1, 1, 0, 0);
        edge("ever", oneEdge(16), 0, 1, 1, 1, 0);
        edge("ever twice", oneEdge(16, 16), 0, 1, 3, 0, 0);
    }

    private static void edgeWithManyFaults() {
        DUE.of("ArithmeticException: it has more than 15 FAULTS (for 2, 3).");
        int[] many = new int[16];
        Tried x = oneEdge(many);
        edge("16 that never happen", x, 0, 1, 0xffff);
        DUE.edgeThrows(x, 0, 2);
        DUE.edgeThrows(x, 0, 3);
        edge("no other edge", x, 1, -1, -1, -1, -1, -1);
        DUE.is("no other what", x.edge(0, 4), -1);
        DUE.is("nor this", x.edge(0, -1), -1);
        x = oneEdge(new int[40]);
        edge("40", x, 0, 1, (1L << 40) - 1);
        DUE.edgeThrows(x, 0, 2);
        DUE.edgeThrows(x, 0, 3);
        DUE.is("total still", x.total(5), 1);
        DUE.is("run still", x.run(1L << 39, 0L), 1);

        x = circuit(2);
        for (int i = 0; i < 30; i++) {
            x.fault(0, i % 2, 16);
        }
        x.look(0, false);
        x.look(1, false);
        x.check(1L);
        x.check(2L);
        edge("15 of 30", x, 0, 1, 0x15555555L, 1, 0);
        edge("15 others", x, 1, 2, 0x2aaaaaaaL, 1, 0);
    }

    private static void run() {
        DUE.of("What all LOOKS tell, as a set, if just these FAULTS happen (a set), and RANDOM ones told what"
            + " tells is (others of it count for nothing), unless they are CHANGED.");
        Tried x = circuit(3, H, 0, 0);
        x.fault(0, 0, 0);
        x.fault(0, 2, 16);
        add(x, CX, 0, 1, X, 2, 0);
        x.fault(1, 1, 3);
        for (int a = 0; a < 3; a++) {
            x.look(a, false);
        }
        x.look(1, false);
        DUE.is("none, told 0", x.run(0L, 0L), 4);
        DUE.is("none, told 1", x.run(0L, 1L), 15);
        DUE.is("others count for nothing", x.run(0L, ~1L), 4);
        DUE.is("all told", x.run(0L, -1L), 15);
        DUE.is("a changed random look", x.run(1L, 0L), 15);
        DUE.is("and told 1", x.run(1L, 1L), 4);
        DUE.is("a sure look", x.run(2L, 0L), 0);
        DUE.is("a pair apart", x.run(4L, 1L), 5);
        DUE.is("two faults", x.run(5L, 1L), 4 | 2 | 8);
        DUE.is("all faults", x.run(7L, 0L), 1);
        DUE.is("fault 3 is not there", x.run(8L, 0L), -1);
        DUE.is("nor beside others", x.run(15L, 0L), -1);
        DUE.is("nor 40", x.run(1L << 40, 0L), -1);
        DUE.is("nor 63", x.run(Long.MIN_VALUE, 0L), -1);
        DUE.is("nor all", x.run(-1L, 0L), -1);

        x = circuit(1);
        for (int i = 0; i < 40; i++) {
            x.fault(0, 0, 0);
        }
        add(x, X, 0, 0);
        for (int i = 0; i < 60; i++) {
            x.look(0, false);
        }
        long all = (1L << 60) - 1;
        DUE.is("60 looks", x.run(0L, 0L), all);
        DUE.is("fault 39", x.run(1L << 39, 0L), 0);
        DUE.is("40 faults", x.run((1L << 40) - 1, 0L), all);
        DUE.is("39 faults", x.run((1L << 39) - 1, 0L), 0);
        DUE.is("fault 40", x.run(1L << 40, 0L), -1);
    }

    private static void wrongNumbers() {
        DUE.of("3: e. NONE if there is none such, or for another what.", "outcome, told and changes likewise");
        Tried x = circuit(2, H, 0, 0);
        x.fault(0, 0, 1);
        x.look(0, false);
        x.check(1L);
        for (int wrong : new int[] {Integer.MIN_VALUE, -1, 1, 2, 31, 32, 64, Integer.MAX_VALUE}) {
            for (int what = -1; what < 5; what++) {
                DUE.is("outcome(" + wrong + ")", x.outcome(wrong, what), -1);
                DUE.is("told(" + wrong + ")", x.told(wrong, what), -1);
                DUE.is("changes(" + wrong + ")", x.changes(wrong, what), -1);
                DUE.is("edge(" + wrong + ")", x.edge(wrong, what), -1);
            }
        }
        for (int what : new int[] {Integer.MIN_VALUE, -1, 4, 5, 32, Integer.MAX_VALUE}) {
            DUE.is("outcome(0, " + what + ")", x.outcome(0, what), -1);
            DUE.is("told(0, " + what + ")", x.told(0, what), -1);
            DUE.is("changes(0, " + what + ")", x.changes(0, what), -1);
            DUE.is("edge(0, " + what + ")", x.edge(0, what), -1);
        }
        DUE.is("outcome(0, 2)", x.outcome(0, 2), -1);
        DUE.is("told(0, 3)", x.told(0, 3), -1);
        DUE.is("changes(0, 2)", x.changes(0, 2), -1);
    }
}
