import java.util.Arrays;
import java.util.List;
import java.util.function.Consumer;

/** The sentences with a limit about what is answered of a circuit (promises 7 to 11, and the terms). */
public final class AnswerLimitsTest {
    private static final Due DUE = new Due();
    private static final Limits LIMITS = new Limits(DUE);
    private static final List<Consumer<Tried>> STATES = List.of(x -> { }, Limits::some, Limits::full);
    private static final long[] UTMOST = {Long.MIN_VALUE, Long.MIN_VALUE + 1, -1L, Long.MAX_VALUE};

    public static void main(String[] args) {
        last512thCall();
        outcomeNumbers();
        outcomeWhats();
        outcomeOfRandomLooks();
        outcomeToldAgain();
        toldNumbers();
        toldWhats();
        toldSure();
        changesNumbers();
        changesWhats();
        changesFirstAndLast();
        changesOddNumbers();
        signsCountForNothing();
        edgeNumbers();
        edgeWhats();
        edgeOfOneCheckAtLeast();
        edgeOfJustTheSameChecks();
        edgesInOrder();
        edgesAsManyAsFaults();
        edgeOdds();
        edgeOddsOfFifteen();
        edgeOfFifteenFaults();
        edgeOfSixteenFaults();
        edgeThatThrowsChangesNothing();
        runFaults();
        runRefused();
        runTells();
        runOfChangedRandoms();
        runWithoutLooks();
        DUE.end();
    }

    private static Tried made(Consumer<Tried> recipe) {
        Tried x = new Tried();
        recipe.accept(x);
        return x;
    }

    /** One wire, this many faults x, then one look, a check of it. */
    private static Tried oneEdge(int... odds) {
        Tried x = new Tried();
        for (int k : odds) {
            x.fault(0, 0, k);
        }
        x.look(0, false);
        x.check(1L);
        return x;
    }

    private static int[] times(int count, int k) {
        int[] odds = new int[count];
        Arrays.fill(odds, k);
        return odds;
    }

    /** Each look is a random one: h before it. */
    private static void randomLooks(Tried x, int count) {
        for (int i = 0; i < count; i++) {
            x.gate(0, 0, 0);
            DUE.is("look", x.look(0, false), i);
        }
    }

    /** Fault i changes look i alone. */
    private static void faultBeforeEachLook(Tried x, int count) {
        for (int i = 0; i < count; i++) {
            DUE.is("fault", x.fault(i % 2, 0, 16), i);
            DUE.is("reset", x.look(0, true), i);
        }
    }

    private static void last512thCall() {
        DUE.of("An object is used for at most 512 calls after it has been made;");
        FrameSamples x = new FrameSamples();
        x.begin(10);
        x.gate(5, 9, 0);
        for (int i = 0; i < 40; i++) {
            x.fault(0, 9, 8);
        }
        for (int i = 0; i < 60; i++) {
            DUE.is("look", x.look(9, false), i);
        }
        for (int i = 0; i < 199; i++) {
            DUE.is("gate", x.gate(6, 0, 0), true);
        }
        for (int i = 0; i < 16; i++) {
            DUE.is("check", x.check(1L << 59 - i), i);
        }
        for (int call = 318; call <= 511; call++) {
            DUE.is("call " + call, x.run(1L << call % 40, call), 0);
        }
        DUE.is("call 512", x.run(0L, 0L), Limits.all(60));
    }

    private static void outcomeNumbers() {
        DUE.of("1: the set of RANDOM LOOKS. NONE if there is none such,");
        for (Consumer<Tried> state : STATES) {
            int looks = made(state).total(2);
            LIMITS.changeNothing(state, x -> {
                for (int look : Limits.outside(0, looks - 1)) {
                    for (int what = -1; what <= 2; what++) {
                        DUE.none("outcome(" + look + ", " + what + ")", x.outcome(look, what));
                    }
                }
            });
        }
        Tried x = new Tried();
        for (int i = 0; i < 60; i++) {
            DUE.none("look " + i + " is not there yet", x.outcome(i, 0));
            x.gate(5, 0, 0);
            x.look(0, false);
            DUE.is("it is there", x.outcome(i, 0), (i + 1) % 2);
        }
        DUE.none("look 60", x.outcome(60, 0));
    }

    private static void outcomeWhats() {
        DUE.of("1: the set of RANDOM LOOKS. NONE if there is none such, or for another what.", "another what");
        Tried x = made(Limits::some);
        DUE.is("what 0", x.outcome(2, 0), 1);
        DUE.is("what 1", x.outcome(2, 1), 1);
        LIMITS.changeNothing(Limits::some, y -> {
            for (int what : Limits.outside(0, 1)) {
                DUE.none("outcome(0, " + what + ")", y.outcome(0, what));
                DUE.none("outcome(2, " + what + ")", y.outcome(2, what));
                DUE.none("outcome(3, " + what + ")", y.outcome(3, what));
            }
        });
    }

    private static void outcomeOfRandomLooks() {
        DUE.of("(of a RANDOM one: of itself alone, constant 0).");
        Tried x = new Tried();
        for (int i = 0; i < 60; i++) {
            x.gate(0, 0, 0);
            x.gate(i % 2 == 0 ? 6 : 5, 0, 0);
            x.look(0, i % 3 == 0);
            DUE.is("look " + i + ": constant", x.outcome(i, 0), 0);
            DUE.is("look " + i + ": itself alone", x.outcome(i, 1), 1L << i);
        }
    }

    private static void outcomeToldAgain() {
        DUE.of("what it told it tells again, if asked at once.)");
        for (int before : new int[] {0, 31, 32, 58}) {
            Tried x = made(y -> randomLooks(y, before));
            x.gate(0, 0, 0);
            x.look(0, false);
            x.look(0, true);
            DUE.is("random", x.outcome(before, 1), 1L << before);
            DUE.is("told again", x.outcome(before + 1, 1), 1L << before);
            DUE.is("told again: constant", x.outcome(before + 1, 0), 0);
        }
        Tried x = new Tried();
        x.gate(5, 0, 0);
        for (int i = 0; i < 60; i++) {
            x.look(0, false);
            DUE.is("1, again and again", x.outcome(i, 0), 1);
            DUE.is("of no random one", x.outcome(i, 1), 0);
        }
    }

    private static void toldNumbers() {
        DUE.of("2: the set of RANDOM LOOKS it hangs on. NONE likewise.", "no such check");
        for (Consumer<Tried> state : STATES) {
            int checks = made(state).total(4);
            LIMITS.changeNothing(state, x -> {
                for (int check : Limits.outside(0, checks - 1)) {
                    for (int what = -1; what <= 3; what++) {
                        DUE.none("told(" + check + ", " + what + ")", x.told(check, what));
                    }
                }
            });
        }
        Tried x = new Tried();
        x.gate(5, 0, 0);
        x.look(0, false);
        for (int i = 0; i < 16; i++) {
            DUE.none("check " + i + " is not there yet", x.told(i, 0));
            x.check(i % 2);
            DUE.is("it is there", x.told(i, 0), 1);
            DUE.is("its constant", x.told(i, 1), i % 2);
        }
        DUE.none("check 16", x.told(16, 0));
    }

    private static void toldWhats() {
        DUE.of("2: the set of RANDOM LOOKS it hangs on. NONE likewise.", "another what");
        Tried x = made(Limits::some);
        for (int what = 0; what <= 2; what++) {
            DUE.is("told(0, " + what + ")", x.told(0, what), new long[] {1, 1, 0}[what]);
            DUE.is("told(1, " + what + ")", x.told(1, what), new long[] {0, 0, 2}[what]);
        }
        LIMITS.changeNothing(Limits::some, y -> {
            for (int what : Limits.outside(0, 2)) {
                DUE.none("told(0, " + what + ")", y.told(0, what));
                DUE.none("told(1, " + what + ")", y.told(1, what));
                DUE.none("told(2, " + what + ")", y.told(2, what));
            }
        });
    }

    private static void toldSure() {
        DUE.of("SURE is a CHECK if the exclusive or of its LOOKS' OUTCOMES hangs on no RANDOM one.");
        Tried x = made(y -> randomLooks(y, 58));
        x.look(0, false);
        x.gate(5, 0, 0);
        x.look(0, false);
        long last = 1L << 57;
        long[] sets = {0, 1, last, last | 1L << 58, last | 1L << 59, 3L << 58, 7L << 57, Limits.all(60)};
        long[] constants = {0, 0, 0, 0, 1, 1, 1, 1};
        long[] randoms = {0, 1, last, 0, 0, 0, last, Limits.all(58)};
        for (int i = 0; i < sets.length; i++) {
            DUE.is("check", x.check(sets[i]), i);
            DUE.is("sure " + i, x.told(i, 0), randoms[i] == 0 ? 1 : 0);
            DUE.is("constant " + i, x.told(i, 1), constants[i]);
            DUE.is("randoms " + i, x.told(i, 2), randoms[i]);
        }
    }

    private static void changesNumbers() {
        DUE.of("as a set. NONE likewise.", "no such fault");
        for (Consumer<Tried> state : STATES) {
            int faults = made(state).total(3);
            LIMITS.changeNothing(state, x -> {
                for (int fault : Limits.outside(0, faults - 1)) {
                    for (int what = -1; what <= 2; what++) {
                        DUE.none("changes(" + fault + ", " + what + ")", x.changes(fault, what));
                    }
                }
            });
        }
        Tried x = new Tried();
        for (int i = 0; i < 40; i++) {
            DUE.none("fault " + i + " is not there yet", x.changes(i, 0));
            x.fault(0, 0, 1);
            DUE.is("it is there", x.changes(i, 0), 0);
        }
        DUE.none("fault 40", x.changes(40, 0));
    }

    private static void changesWhats() {
        DUE.of("as a set. NONE likewise.", "another what");
        Tried x = made(Limits::some);
        DUE.is("what 0", x.changes(0, 0), 4);
        DUE.is("what 1", x.changes(0, 1), 1);
        LIMITS.changeNothing(Limits::some, y -> {
            for (int what : Limits.outside(0, 1)) {
                DUE.none("changes(0, " + what + ")", y.changes(0, what));
                DUE.none("changes(5, " + what + ")", y.changes(5, what));
                DUE.none("changes(6, " + what + ")", y.changes(6, what));
            }
        });
    }

    private static void changesFirstAndLast() {
        DUE.of("Of a FAULT, what 0: the LOOKS that it CHANGES,");
        Tried x = new Tried();
        for (int i = 0; i < 20; i++) {
            x.look(0, true);
        }
        for (int i = 0; i < 40; i++) {
            x.fault(0, 0, 1);
            x.look(0, true);
        }
        for (int i = 0; i < 40; i++) {
            DUE.is("fault " + i, x.changes(i, 0), 1L << 20 + i);
        }
        x = new Tried();
        x.fault(0, 0, 1);
        for (int i = 0; i < 60; i++) {
            x.look(0, false);
        }
        for (int i = 1; i < 40; i++) {
            x.fault(0, 0, 1);
        }
        DUE.is("before all looks", x.changes(0, 0), Limits.all(60));
        DUE.is("behind all looks", x.changes(39, 0), 0);
    }

    private static void changesOddNumbers() {
        DUE.of("1: the CHECKS (an odd number of whose LOOKS it CHANGES), as a set.");
        Tried x = new Tried();
        x.fault(0, 0, 1);
        for (int i = 0; i < 60; i++) {
            x.look(0, false);
        }
        int[] sizes = {0, 1, 2, 3, 30, 31, 32, 33, 34, 35, 56, 57, 58, 59, 60, 59};
        long want = 0L;
        for (int i = 0; i < sizes.length; i++) {
            DUE.is("check", x.check(Limits.all(sizes[i]) << 60 - sizes[i]), i);
            want |= (long) (sizes[i] % 2) << i;
            DUE.is("after check " + i, x.changes(0, 1), want);
        }
    }

    private static void signsCountForNothing() {
        DUE.of("x a and z a change nothing);", "x, y or z behind one gate");
        for (int what = 0; what <= 2; what++) {
            for (boolean turned : new boolean[] {false, true}) {
                Tried x = new Tried();
                x.fault(what, 0, 1);
                x.gate(5, 0, 0);
                x.gate(6, 0, 0);
                if (turned) {
                    x.gate(0, 0, 0);
                }
                x.look(0, false);
                boolean changed = what == 1 || (what == 2) == turned;
                DUE.is("fault " + what, x.changes(0, 0), changed ? 1 : 0);
            }
        }
    }

    private static void edgeNumbers() {
        DUE.of("3: e. NONE if there is none such,");
        for (Consumer<Tried> state : STATES) {
            int edges = made(state).total(5);
            LIMITS.changeNothing(state, x -> {
                for (int i : Limits.outside(0, edges - 1)) {
                    for (int what = -1; what <= 4; what++) {
                        DUE.none("edge(" + i + ", " + what + ")", x.edge(i, what));
                    }
                }
            });
        }
    }

    private static void edgeWhats() {
        DUE.of("3: e. NONE if there is none such, or for another what.", "another what");
        long[][] wants = {{1, 3, 49, 7}, {2, 4, 1, 0}};
        Tried x = made(Limits::some);
        for (int i = 0; i < wants.length; i++) {
            for (int what = 0; what <= 3; what++) {
                DUE.is("edge(" + i + ", " + what + ")", x.edge(i, what), wants[i][what]);
            }
        }
        LIMITS.changeNothing(Limits::some, y -> {
            for (int what : Limits.outside(0, 3)) {
                DUE.none("edge(0, " + what + ")", y.edge(0, what));
                DUE.none("edge(1, " + what + ")", y.edge(1, what));
                DUE.none("edge(2, " + what + ")", y.edge(2, what));
            }
        });
    }

    private static void edgeOfOneCheckAtLeast() {
        DUE.of("of just the same CHECKS (one at least), together;", "one at least");
        Tried x = new Tried();
        x.fault(2, 0, 16);
        x.fault(0, 0, 16);
        x.look(0, false);
        x.look(0, false);
        DUE.is("no checks, no edges", x.total(5), 0);
        DUE.none("no checks, no edges", x.edge(0, 0));
        x.check(0L);
        x.check(3L);
        DUE.is("none, and an even number of looks", x.total(5), 0);
        DUE.none("none, and an even number of looks", x.edge(0, 1));
        x.check(2L);
        DUE.is("one check", x.total(5), 1);
        DUE.is("its checks", x.edge(0, 0), 4);
        DUE.is("without the fault that changes none", x.edge(0, 1), 2);
        DUE.none("no other", x.edge(1, 1));
    }

    private static void edgeOfJustTheSameChecks() {
        DUE.of("of just the same CHECKS (one at least), together;", "just the same");
        Tried x = made(y -> faultBeforeEachLook(y, 6));
        long[] checks = {1 | 4, 1 | 4 | 8, 1 | 2 | 4, 0, 0, 0, 0, 0, 0, 0, 0, 0, 0, 0, 0, 32};
        for (long looks : checks) {
            x.check(looks);
        }
        long[][] wants = {{7, 5}, {4, 2}, {2, 8}, {1 << 15, 32}};
        for (int i = 0; i < wants.length; i++) {
            DUE.is("edge(" + i + ", 0)", x.edge(i, 0), wants[i][0]);
            DUE.is("edge(" + i + ", 1)", x.edge(i, 1), wants[i][1]);
        }
        DUE.is("edges", x.total(5), 4);
        Tried y = new Tried();
        y.fault(0, 0, 1);
        y.look(0, false);
        for (int i = 0; i < 16; i++) {
            y.check(1L);
        }
        DUE.is("all 16 checks", y.edge(0, 0), 0xffff);
    }

    private static void edgesInOrder() {
        DUE.of("in the order of their first FAULTS.");
        Tried x = made(y -> faultBeforeEachLook(y, 40));
        x.check(1L << 39);
        DUE.is("the last fault's", x.edge(0, 1), 1L << 39);
        x.check(1L << 1 | 1L << 38);
        DUE.is("before it", x.edge(0, 1), 1L << 1 | 1L << 38);
        DUE.is("behind it", x.edge(1, 1), 1L << 39);
        x.check(1L);
        DUE.is("the first fault's", x.edge(0, 1), 1L);
        DUE.is("then", x.edge(1, 1), 1L << 1 | 1L << 38);
        DUE.is("last", x.edge(2, 1), 1L << 39);
        DUE.none("no more", x.edge(3, 1));
    }

    private static void edgesAsManyAsFaults() {
        DUE.of("1: its FAULTS, 2: u of its odds, 3: e.", "as many edges as faults");
        Tried x = made(y -> faultBeforeEachLook(y, 40));
        for (int c = 0; c < 6; c++) {
            long looks = 0L;
            for (int i = 0; i < 40; i++) {
                looks |= (long) (i + 1 >> c & 1) << i;
            }
            x.check(looks);
        }
        DUE.is("edges", x.total(5), 40);
        for (int i = 0; i < 40; i++) {
            DUE.is("edge(" + i + ", 0)", x.edge(i, 0), i + 1);
            DUE.is("edge(" + i + ", 1)", x.edge(i, 1), 1L << i);
            DUE.is("edge(" + i + ", 2)", x.edge(i, 2), 1);
            DUE.is("edge(" + i + ", 3)", x.edge(i, 3), 0);
        }
        for (int what = 0; what <= 3; what++) {
            DUE.none("edge(40, " + what + ")", x.edge(40, what));
        }
    }

    private static void odds(Tried x, long u, long e) {
        DUE.is("u", x.edge(0, 2), u);
        DUE.is("e", x.edge(0, 3), e);
    }

    private static void edgeOdds() {
        DUE.of("u / 2^e, with the least e, 0 or more.");
        int[] us = {0, 1, 1, 3, 1, 5, 3, 7, 1, 9, 5, 11, 3, 13, 7, 15, 1};
        int[] es = {0, 4, 3, 4, 2, 4, 3, 4, 1, 4, 3, 4, 2, 4, 3, 4, 0};
        for (int k = 0; k <= 16; k++) {
            odds(oneEdge(k), us[k], es[k]);
            odds(oneEdge(k, 0), us[k], es[k]);
            odds(oneEdge(16, k), us[16 - k], es[16 - k]);
            odds(oneEdge(k, 8), 1, 1);
        }
        odds(oneEdge(1, 1), 15, 7);
        odds(oneEdge(15, 15), 15, 7);
        odds(oneEdge(15, 1), 113, 7);
    }

    private static void edgeOddsOfFifteen() {
        DUE.of("u / 2^e, with the least e, 0 or more.", "the utmost of 15 faults");
        odds(oneEdge(times(15, 0)), 0, 0);
        odds(oneEdge(times(15, 16)), 1, 0);
        odds(oneEdge(times(15, 8)), 1, 1);
        // An odd number of 15, each with odds k / 16: (1 - ((8 - k) / 8)^15) / 2.
        long eighths = 1L << 45;
        long sevens = 1L;
        for (int i = 0; i < 15; i++) {
            sevens *= 7L;
        }
        odds(oneEdge(times(15, 1)), eighths - sevens, 46);
        odds(oneEdge(times(15, 15)), eighths + sevens, 46);
        odds(oneEdge(times(15, 4)), (1L << 15) - 1, 16);
        odds(oneEdge(times(15, 12)), (1L << 15) + 1, 16);
    }

    private static void edgeOfFifteenFaults() {
        DUE.of("ArithmeticException: it has more than 15 FAULTS (for 2, 3).", "not of 15");
        for (int k = 0; k <= 16; k++) {
            Tried x = oneEdge(times(15, k));
            DUE.is("checks", x.edge(0, 0), 1);
            DUE.is("faults", x.edge(0, 1), Limits.all(15));
            DUE.is("u is told", x.edge(0, 2) >= 0L, true);
            DUE.is("e is told", x.edge(0, 3) >= 0L, true);
        }
        Tried x = new Tried();
        for (int i = 0; i < 40; i++) {
            x.fault(i < 25 ? 2 : 0, 0, 16);
        }
        x.look(0, false);
        x.check(1L);
        DUE.is("the last 15 of 40", x.edge(0, 1), Limits.all(40) - Limits.all(25));
        odds(x, 1, 0);
    }

    private static void edgeOfSixteenFaults() {
        DUE.of("ArithmeticException: it has more than 15 FAULTS (for 2, 3).");
        for (int count : new int[] {16, 17, 31, 32, 33, 39, 40}) {
            for (int k : new int[] {0, 1, 8, 16}) {
                Tried x = oneEdge(times(count, k));
                DUE.edgeThrows(x, 0, 2);
                DUE.edgeThrows(x, 0, 3);
                DUE.is("its checks still", x.edge(0, 0), 1);
                DUE.is("its faults still", x.edge(0, 1), Limits.all(count));
                for (int what : Limits.outside(0, 3)) {
                    DUE.none("edge(0, " + what + ")", x.edge(0, what));
                }
                DUE.none("no edge 1", x.edge(1, 2));
                DUE.none("no edge -1", x.edge(-1, 3));
            }
        }
    }

    private static void manyAndFew(Tried x) {
        x.begin(2);
        for (int i = 0; i < 32; i++) {
            x.fault(0, i % 2 == 0 || i == 31 ? 0 : 1, 16);
        }
        x.look(0, false);
        x.look(1, false);
        x.check(1L);
        x.check(2L);
    }

    private static void edgeThatThrowsChangesNothing() {
        DUE.of("ArithmeticException: it has more than 15 FAULTS (for 2, 3).", "this edge alone, and nothing has changed");
        LIMITS.changeNothing(AnswerLimitsTest::manyAndFew, x -> {
            for (int what = 2; what <= 3; what++) {
                DUE.edgeThrows(x, 0, what);
                DUE.is("the other edge", x.edge(1, what), what == 2 ? 1 : 0);
                DUE.edgeThrows(x, 0, what);
            }
        });
        DUE.is("17 faults", Long.bitCount(made(AnswerLimitsTest::manyAndFew).edge(0, 1)), 17);
        DUE.is("15 faults", Long.bitCount(made(AnswerLimitsTest::manyAndFew).edge(1, 1)), 15);
    }

    private static void runFaults() {
        DUE.of("if just these FAULTS happen (a set),");
        for (int count : new int[] {1, 2, 31, 32, 33, 40}) {
            Tried x = made(y -> faultBeforeEachLook(y, count));
            DUE.is("none", x.run(0L, 0L), 0);
            DUE.is("all", x.run(Limits.all(count), 0L), Limits.all(count));
            for (int i = 0; i < count; i++) {
                DUE.is("fault " + i, x.run(1L << i, 0L), 1L << i);
                DUE.is("but fault " + i, x.run(Limits.all(count) ^ 1L << i, 0L), Limits.all(count) ^ 1L << i);
            }
        }
    }

    private static void runRefused() {
        DUE.of("NONE if faults has one that there is not.");
        for (int count : new int[] {0, 1, 2, 31, 32, 33, 39, 40}) {
            LIMITS.changeNothing(y -> faultBeforeEachLook(y, count), x -> {
                for (long set : Limits.setsOutside(count)) {
                    DUE.none("run(" + set + ", 0)", x.run(set, 0L));
                    DUE.none("run(" + set + ", -1)", x.run(set, -1L));
                }
            });
        }
        for (Consumer<Tried> state : STATES) {
            int count = made(state).total(3);
            LIMITS.changeNothing(state, x -> {
                for (long set : Limits.setsOutside(count)) {
                    DUE.none("run(" + set + ", 5)", x.run(set, 5L));
                }
            });
        }
    }

    private static void runTells() {
        DUE.of("and RANDOM ones told what tells is (others of it count for nothing),");
        for (int count : new int[] {1, 2, 31, 32, 33, 60}) {
            Tried x = made(y -> randomLooks(y, count));
            for (int i = 0; i < 64; i++) {
                DUE.is("told by 2^" + i, x.run(0L, 1L << i), i < count ? 1L << i : 0L);
            }
            for (long tells : UTMOST) {
                DUE.is("run(0, " + tells + ")", x.run(0L, tells), tells & Limits.all(count));
            }
        }
        Tried x = made(Limits::some);
        for (long others : new long[] {0L, 4L, 8L, ~3L, 4L | Long.MIN_VALUE, Long.MAX_VALUE - 3L}) {
            DUE.is("run(0, " + others + ")", x.run(0L, others), 4);
            DUE.is("run(0, " + (others | 1L) + ")", x.run(0L, others | 1L), 1);
            DUE.is("run(0, " + (others | 2L) + ")", x.run(0L, others | 2L), 6);
            DUE.is("run(0, " + (others | 3L) + ")", x.run(0L, others | 3L), 3);
        }
    }

    private static void runOfChangedRandoms() {
        DUE.of("unless they are CHANGED.");
        Tried x = new Tried();
        for (int i = 0; i < 60; i++) {
            x.gate(0, 0, 0);
            if (i >= 20) {
                x.fault(0, 0, 0);
            }
            x.look(0, true);
        }
        for (long tells : UTMOST) {
            long told = tells & Limits.all(60);
            DUE.is("no fault", x.run(0L, tells), told);
            DUE.is("the first", x.run(1L, tells), told ^ 1L << 20);
            DUE.is("the last", x.run(1L << 39, tells), told ^ 1L << 59);
            DUE.is("all", x.run(Limits.all(40), tells), told ^ Limits.all(40) << 20);
        }
    }

    private static void runWithoutLooks() {
        DUE.of("What all LOOKS tell, as a set,", "where there is none");
        for (long tells : UTMOST) {
            DUE.is("new", new Tried().run(0L, tells), 0);
        }
        Tried x = new Tried();
        x.fault(0, 0, 16);
        x.gate(5, 0, 0);
        for (long tells : UTMOST) {
            DUE.is("a fault and a gate", x.run(1L, tells), 0);
        }
    }
}
