import java.util.List;
import java.util.function.Consumer;

/** The sentences with a limit about making an object and building a circuit (promises 1 to 6, 12). */
public final class BuildingLimitsTest {
    private static final Due DUE = new Due();
    private static final Limits LIMITS = new Limits(DUE);
    private static final int[] ONE_WIRE_KINDS = {0, 1, 5, 6};
    private static final int[] TWO_WIRE_KINDS = {2, 3, 4};
    private static final List<Consumer<Tried>> STATES = List.of(x -> { }, Limits::some, Limits::full);

    public static void main(String[] args) {
        newObject();
        allWiresAreZero();
        beginTaken();
        beginRefused();
        beginForgets();
        beginForgetsFullRows();
        beginForgetsAllActs();
        gateKinds();
        gateWires();
        gateSecondWires();
        gateSecondWireIsTheFirst();
        gateSecondWireCountsForNothing();
        gateActs();
        actsOfAllKinds();
        lookWires();
        lookNumbers();
        lookActs();
        faultWhats();
        faultWires();
        faultOdds();
        faultNumbers();
        faultActs();
        checkLooksThatAreThere();
        checkLooksThatAreNotThereYet();
        checkWithoutLooks();
        checkNumbers();
        totalWhats();
        DUE.end();
    }

    private static Consumer<Tried> wires(int n) {
        return x -> DUE.is("begin(" + n + ")", x.begin(n), true);
    }

    private static Tried made(Consumer<Tried> recipe) {
        Tried x = new Tried();
        recipe.accept(x);
        return x;
    }

    private static Consumer<Tried> gates(int count) {
        return x -> {
            for (int i = 0; i < count; i++) {
                DUE.is("gate " + (i + 1), x.gate(5 * (i % 2), i % x.total(0), 0), true);
            }
        };
    }

    private static Consumer<Tried> looks(int count, boolean reset) {
        return x -> {
            for (int i = 0; i < count; i++) {
                DUE.is("look", x.look(i % x.total(0), reset), i);
            }
        };
    }

    private static Consumer<Tried> faults(int count) {
        return x -> {
            for (int i = 0; i < count; i++) {
                DUE.is("fault", x.fault(i % 3, i % x.total(0), i % 17), i);
            }
        };
    }

    private static Consumer<Tried> checks(int count, long looks) {
        return x -> {
            for (int i = 0; i < count; i++) {
                DUE.is("check", x.check(looks), i);
            }
        };
    }

    private static void newObject() {
        DUE.of("One WIRE.");
        DUE.totals("new", new Tried(), 1, 0, 0, 0, 0, 0);
        for (int a : Limits.outside(0, 0)) {
            LIMITS.changeNothing(x -> { }, x -> {
                DUE.is("gate on " + a, x.gate(5, a, 0), false);
                DUE.none("look at " + a, x.look(a, false));
                DUE.none("fault of " + a, x.fault(0, a, 1));
            });
        }
        DUE.is("gate", new Tried().gate(0, 0, 0), true);
        DUE.is("look", new Tried().look(0, false), 0);
        DUE.is("fault", new Tried().fault(0, 0, 1), 0);
        LIMITS.comeToTheSame(x -> { }, wires(1));
    }

    private static void allWiresAreZero() {
        DUE.of("WIRES 0 .. n - 1 (n is 1 .. 10), all 0 at first.");
        for (int n = 1; n <= 10; n++) {
            Tried x = made(Limits::some);
            x.begin(n);
            for (int a = 0; a < n; a++) {
                DUE.is("look", x.look(a, false), a);
                DUE.is("wire " + a + ": constant", x.outcome(a, 0), 0);
                DUE.is("wire " + a + ": randoms", x.outcome(a, 1), 0);
            }
        }
    }

    private static void beginTaken() {
        DUE.of("n WIRES, no ACTS, no CHECKS: true;");
        for (Consumer<Tried> state : STATES) {
            for (int n = 1; n <= 10; n++) {
                Tried x = made(state);
                DUE.is("begin(" + n + ")", x.begin(n), true);
                DUE.totals("begun", x, n, 0, 0, 0, 0, 0);
                DUE.is("no wire " + n, x.gate(5, n, 0), false);
                DUE.none("no wire " + n, x.look(n, false));
                DUE.none("no wire " + n, x.fault(0, n, 1));
                DUE.is("the last wire", x.gate(5, n - 1, 0), true);
                DUE.is("the last wire", x.look(n - 1, false), 0);
                DUE.is("the last wire", x.fault(0, n - 1, 1), 0);
                DUE.is("it is 1", x.outcome(0, 0), 1);
            }
        }
    }

    private static void beginRefused() {
        DUE.of("false, changing nothing, for another n.");
        for (Consumer<Tried> state : STATES) {
            LIMITS.changeNothing(state, x -> {
                for (int n : Limits.outside(1, 10)) {
                    DUE.is("begin(" + n + ")", x.begin(n), false);
                }
            });
        }
    }

    private static void beginForgets() {
        DUE.of("n WIRES, no ACTS, no CHECKS: true;", "behind some acts");
        for (int n : new int[] {1, 2, 10}) {
            LIMITS.comeToTheSame(x -> {
                Limits.some(x);
                x.begin(n);
            }, wires(n));
        }
        Tried x = made(Limits::some);
        x.begin(3);
        DUE.none("no look", x.outcome(0, 0));
        DUE.none("no check", x.told(0, 0));
        DUE.none("no fault", x.changes(0, 0));
        DUE.none("no edge", x.edge(0, 0));
        DUE.none("no fault to happen", x.run(1L, 0L));
        DUE.is("no look to tell", x.run(0L, -1L), 0);
    }

    private static void beginForgetsFullRows() {
        DUE.of("n WIRES, no ACTS, no CHECKS: true;", "where looks, faults, checks were full");
        Consumer<Tried> full = faults(40).andThen(looks(60, false)).andThen(checks(16, 3L << 58));
        LIMITS.comeToTheSame(wires(10).andThen(full).andThen(wires(4)).andThen(full), wires(4).andThen(full));
    }

    private static void beginForgetsAllActs() {
        DUE.of("n WIRES, no ACTS, no CHECKS: true;", "where there were 300 acts");
        Tried x = made(wires(2).andThen(gates(300)));
        DUE.is("gate 301", x.gate(5, 0, 0), false);
        DUE.is("begin", x.begin(2), true);
        gates(100).accept(x);
        DUE.totals("100 gates", x, 2, 100, 0, 0, 0, 0);
    }

    private static void gateKinds() {
        DUE.of("false, changing nothing, if there is no such kind 0 .. 6,");
        for (int kind = 0; kind <= 6; kind++) {
            Tried x = made(wires(2));
            DUE.is("gate(" + kind + ", 1, 0)", x.gate(kind, 1, 0), true);
            DUE.totals("it is an act", x, 2, 1, 0, 0, 0, 0);
        }
        LIMITS.changeNothing(Limits::some, x -> {
            for (int kind : Limits.outside(0, 6)) {
                DUE.is("gate(" + kind + ", 0, 1)", x.gate(kind, 0, 1), false);
                DUE.is("gate(" + kind + ", 2, 2)", x.gate(kind, 2, 2), false);
            }
        });
    }

    private static void gateWires() {
        DUE.of("there are no such WIRES,", "a");
        for (int n : new int[] {2, 3, 10}) {
            for (int kind = 0; kind <= 6; kind++) {
                DUE.is("the first wire", made(wires(n)).gate(kind, 0, 1), true);
                DUE.is("the last wire", made(wires(n)).gate(kind, n - 1, 0), true);
            }
        }
        for (int kind = 0; kind <= 6; kind++) {
            int tried = kind;
            LIMITS.changeNothing(Limits::some, x -> {
                for (int a : Limits.outside(0, 2)) {
                    DUE.is("gate(" + tried + ", " + a + ", 0)", x.gate(tried, a, 0), false);
                }
            });
        }
    }

    private static void gateSecondWires() {
        DUE.of("there are no such WIRES,", "b, of 2 to 4");
        for (int kind : TWO_WIRE_KINDS) {
            for (int n : new int[] {2, 3, 10}) {
                DUE.is("the first wire", made(wires(n)).gate(kind, n - 1, 0), true);
                DUE.is("the last wire", made(wires(n)).gate(kind, 0, n - 1), true);
                DUE.is("none behind it", made(wires(n)).gate(kind, 0, n), false);
            }
            LIMITS.changeNothing(Limits::some, x -> {
                for (int b : Limits.outside(0, 2)) {
                    DUE.is("gate(" + kind + ", 1, " + b + ")", x.gate(kind, 1, b), false);
                    DUE.is("gate(" + kind + ", " + b + ", " + b + ")", x.gate(kind, b, b), false);
                }
            });
            LIMITS.changeNothing(wires(1), x -> {
                for (int b : Limits.outside(1, 0)) {
                    DUE.is("one wire: gate(" + kind + ", 0, " + b + ")", x.gate(kind, 0, b), false);
                }
            });
        }
    }

    private static void gateSecondWireIsTheFirst() {
        DUE.of("a is b (of 2 to 4),");
        for (int a = 0; a < 10; a++) {
            int both = a;
            for (int kind : TWO_WIRE_KINDS) {
                LIMITS.changeNothing(wires(10).andThen(gates(33)).andThen(faults(30)),
                    x -> DUE.is("gate(" + kind + ", a, a)", x.gate(kind, both, both), false));
            }
            for (int kind : ONE_WIRE_KINDS) {
                DUE.is("gate(" + kind + ", a, a)", made(wires(10)).gate(kind, a, a), true);
            }
        }
    }

    private static void gateSecondWireCountsForNothing() {
        DUE.of("A GATE (b counts for nothing but for 2, 3, 4): true;");
        List<Integer> numbers = Limits.outside(0, -1);
        for (int kind : ONE_WIRE_KINDS) {
            LIMITS.comeToTheSame(x -> {
                Limits.some(x);
                for (int i = 0; i < numbers.size(); i++) {
                    int b = numbers.get(i);
                    DUE.is("gate(" + kind + ", a, " + b + ")", x.gate(kind, i % 3, b), true);
                }
            }, x -> {
                Limits.some(x);
                for (int i = 0; i < numbers.size(); i++) {
                    x.gate(kind, i % 3, (i + 1) % 3);
                }
            });
        }
    }

    private static void gateActs() {
        DUE.of("or there are 300 ACTS.");
        for (int kind = 0; kind <= 6; kind++) {
            int tried = kind;
            Tried x = made(wires(3).andThen(gates(299)));
            DUE.is("act 300: gate(" + kind + ", 0, 1)", x.gate(kind, 0, 1), true);
            DUE.is("act 301: gate(" + kind + ", 0, 1)", x.gate(kind, 0, 1), false);
            DUE.totals("300 acts", x, 3, 300, 0, 0, 0, 0);
            LIMITS.changeNothing(Limits::full, y -> {
                DUE.is("full: gate(" + tried + ", 0, 9)", y.gate(tried, 0, 9), false);
                DUE.is("full: gate(" + tried + ", 9, 0)", y.gate(tried, 9, 0), false);
            });
        }
    }

    private static void actsOfAllKinds() {
        DUE.of("ACTS, at most 300:", "gates, looks, resets and faults, but no checks");
        Tried x = made(wires(5).andThen(faults(40)).andThen(looks(30, true)));
        checks(15, all()).accept(x);
        DUE.totals("70 acts", x, 5, 70, 30, 40, 15, x.total(5));
        gates(230).accept(x);
        DUE.is("act 301", x.gate(0, 0, 0), false);
        DUE.is("a check still", x.check(all()), 15);
        DUE.totals("300 acts", x, 5, 300, 30, 40, 16, x.total(5));
    }

    private static long all() {
        return Limits.all(30);
    }

    private static void lookWires() {
        DUE.of("NONE if there is no such WIRE,");
        for (int n : new int[] {1, 2, 10}) {
            for (boolean reset : new boolean[] {false, true}) {
                DUE.is("the first wire", made(wires(n)).look(0, reset), 0);
                DUE.is("the last wire", made(wires(n)).look(n - 1, reset), 0);
                DUE.none("none behind it", made(wires(n)).look(n, reset));
            }
        }
        LIMITS.changeNothing(Limits::some, x -> {
            for (int a : Limits.outside(0, 2)) {
                DUE.none("look(" + a + ")", x.look(a, false));
                DUE.none("reset(" + a + ")", x.look(a, true));
            }
        });
    }

    private static void lookNumbers() {
        DUE.of("there are 60 LOOKS,");
        for (boolean reset : new boolean[] {false, true}) {
            Consumer<Tried> many = wires(3).andThen(gates(5)).andThen(faults(7)).andThen(looks(60, reset));
            LIMITS.changeNothing(many, x -> {
                for (int a = 0; a < 3; a++) {
                    DUE.none("look 60", x.look(a, false));
                    DUE.none("reset 60", x.look(a, true));
                }
            });
            Tried x = made(many);
            DUE.is("a gate still", x.gate(0, 0, 0), true);
            DUE.is("a fault still", x.fault(0, 0, 1), 7);
            DUE.is("a check still", x.check(1L << 59), 0);
            DUE.totals("60 looks", x, 3, 74, 60, 8, 1, x.total(5));
        }
        Tried x = made(wires(1));
        for (int i = 0; i < 60; i++) {
            DUE.is("looks and resets", x.look(0, i % 2 == 1), i);
        }
        DUE.none("one more", x.look(0, true));
    }

    private static void lookActs() {
        DUE.of("there are 60 LOOKS, or 300 ACTS.", "300 acts");
        for (boolean reset : new boolean[] {false, true}) {
            Consumer<Tried> all = wires(2).andThen(gates(299)).andThen(looks(1, reset));
            LIMITS.changeNothing(all, x -> {
                for (int a = 0; a < 2; a++) {
                    DUE.none("look, act 301", x.look(a, false));
                    DUE.none("reset, act 301", x.look(a, true));
                }
            });
            DUE.totals("300 acts", made(all), 2, 300, 1, 0, 0, 0);
            LIMITS.changeNothing(Limits::full, x -> DUE.none("full: look", x.look(9, reset)));
        }
        Tried x = made(wires(2).andThen(gates(240)).andThen(looks(60, false)));
        DUE.totals("300 acts, 60 looks", x, 2, 300, 60, 0, 0, 0);
    }

    private static void faultWhats() {
        DUE.of("NONE if there is no such what,");
        for (int what = 0; what <= 2; what++) {
            DUE.is("fault(" + what + ", 0, 1)", made(wires(1)).fault(what, 0, 1), 0);
        }
        LIMITS.changeNothing(Limits::some, x -> {
            for (int what : Limits.outside(0, 2)) {
                DUE.none("fault(" + what + ", 0, 1)", x.fault(what, 0, 1));
            }
        });
    }

    private static void faultWires() {
        DUE.of("NONE if there is no such what, WIRE,", "wire");
        for (int n : new int[] {1, 2, 10}) {
            DUE.is("the first wire", made(wires(n)).fault(0, 0, 1), 0);
            DUE.is("the last wire", made(wires(n)).fault(0, n - 1, 1), 0);
            DUE.none("none behind it", made(wires(n)).fault(0, n, 1));
        }
        LIMITS.changeNothing(Limits::some, x -> {
            for (int a : Limits.outside(0, 2)) {
                for (int what = 0; what <= 2; what++) {
                    DUE.none("fault(" + what + ", " + a + ", 1)", x.fault(what, a, 1));
                }
            }
        });
    }

    private static void faultOdds() {
        DUE.of("NONE if there is no such what, WIRE, k,", "k");
        for (int k = 0; k <= 16; k++) {
            DUE.is("fault(0, 0, " + k + ")", made(wires(1)).fault(0, 0, k), 0);
        }
        LIMITS.changeNothing(Limits::some, x -> {
            for (int k : Limits.outside(0, 16)) {
                DUE.none("fault(0, 0, " + k + ")", x.fault(0, 0, k));
                DUE.none("fault(2, 2, " + k + ")", x.fault(2, 2, k));
            }
        });
    }

    private static void faultNumbers() {
        DUE.of("there are 40,");
        Consumer<Tried> many = wires(3).andThen(gates(5)).andThen(faults(40));
        LIMITS.changeNothing(many, x -> {
            for (int what = 0; what <= 2; what++) {
                DUE.none("fault 40", x.fault(what, what, 0));
                DUE.none("fault 40", x.fault(what, what, 16));
            }
        });
        Tried x = made(many);
        DUE.is("a gate still", x.gate(0, 0, 0), true);
        DUE.is("a look still", x.look(0, false), 0);
        DUE.is("a reset still", x.look(0, true), 1);
        DUE.is("a check still", x.check(3L), 0);
        DUE.totals("40 faults", x, 3, 48, 2, 40, 1, x.total(5));
    }

    private static void faultActs() {
        DUE.of("there are 40, or 300 ACTS.", "300 acts");
        Consumer<Tried> all = wires(2).andThen(gates(299)).andThen(faults(1));
        LIMITS.changeNothing(all, x -> {
            for (int what = 0; what <= 2; what++) {
                DUE.none("fault, act 301", x.fault(what, 1, 1));
            }
        });
        DUE.totals("300 acts", made(all), 2, 300, 0, 1, 0, 0);
        LIMITS.changeNothing(Limits::full, x -> DUE.none("full: fault", x.fault(0, 9, 1)));
        Tried x = made(wires(2).andThen(gates(260)).andThen(faults(40)));
        DUE.totals("300 acts, 40 faults", x, 2, 300, 0, 40, 0, 0);
    }

    private static void checkLooksThatAreThere() {
        DUE.of("A CHECK: its number.");
        for (int count : new int[] {1, 2, 31, 32, 33, 59, 60}) {
            Tried x = made(wires(2).andThen(looks(count, false)));
            DUE.is("the first look", x.check(1L), 0);
            DUE.is("the last look", x.check(1L << count - 1), 1);
            DUE.is("all looks", x.check(Limits.all(count)), 2);
        }
    }

    private static void checkLooksThatAreNotThereYet() {
        DUE.of("NONE if a LOOK is not there (yet),");
        for (int count : new int[] {0, 1, 2, 31, 32, 33, 59, 60}) {
            LIMITS.changeNothing(wires(2).andThen(faults(3)).andThen(looks(count, false)), x -> {
                for (long set : Limits.setsOutside(count)) {
                    DUE.none("check(" + set + ")", x.check(set));
                }
            });
        }
        LIMITS.changeNothing(Limits::some, x -> {
            for (long set : Limits.setsOutside(3)) {
                DUE.none("check(" + set + ")", x.check(set));
            }
        });
        Tried x = made(wires(1));
        for (int i = 0; i < 60; i++) {
            DUE.none("look " + i + " is not there yet", x.check(1L << i));
            x.look(0, false);
        }
        DUE.is("it is there now", x.check(1L << 59), 0);
    }

    private static void checkWithoutLooks() {
        DUE.of("A CHECK is a set of LOOKS", "the empty one");
        for (Consumer<Tried> state : List.of(wires(1), wires(2).andThen(gates(3)).andThen(looks(60, true)))) {
            Tried x = made(state);
            DUE.is("check(0)", x.check(0L), 0);
            DUE.is("sure", x.told(0, 0), 1);
            DUE.is("constant", x.told(0, 1), 0);
            DUE.is("randoms", x.told(0, 2), 0);
        }
    }

    private static void checkNumbers() {
        DUE.of("or there are 16.");
        Consumer<Tried> many = wires(3).andThen(faults(4)).andThen(looks(3, false)).andThen(checks(16, 5L));
        LIMITS.changeNothing(many, x -> {
            for (long set = 0L; set < 8L; set++) {
                DUE.none("check 16", x.check(set));
            }
            DUE.none("check 16", x.check(-1L));
        });
        DUE.totals("16 checks", made(many), 3, 7, 3, 4, 16, 1);
        LIMITS.changeNothing(Limits::full, x -> DUE.none("full: check", x.check(1L)));
    }

    private static void totalWhats() {
        DUE.of("5: EDGES. NONE for another what.");
        DUE.totals("some", made(Limits::some), 3, 20, 3, 6, 2, 2);
        DUE.totals("full", made(Limits::full), 10, 300, 60, 40, 16, 22);
        for (Consumer<Tried> state : STATES) {
            LIMITS.changeNothing(state, x -> {
                for (int what : Limits.outside(0, 5)) {
                    DUE.none("total(" + what + ")", x.total(what));
                }
            });
        }
    }
}
