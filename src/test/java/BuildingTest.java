/** Promises 1 to 6 and 12: what builds a circuit, its limits and wrong inputs. */
public final class BuildingTest {
    private static final Due DUE = new Due();
    private static final int[] NUMBERS_OUTSIDE = {Integer.MIN_VALUE, -1, Integer.MAX_VALUE};

    public static void main(String[] args) {
        newObject();
        begin();
        gate();
        lookNumbers();
        faultNumbers();
        checkNumbers();
        actsEnd();
        total();
        DUE.end();
    }

    private static Tried wires(int n) {
        Tried x = new Tried();
        DUE.is("begin(" + n + ")", x.begin(n), true);
        return x;
    }

    private static void newObject() {
        DUE.of("One WIRE.");
        Tried x = new Tried();
        DUE.totals("new", x, 1, 0, 0, 0, 0, 0);
        DUE.is("new: gate on wire 1", x.gate(0, 1, 0), false);
        DUE.is("new: look at wire 1", x.look(1, false), -1);
        DUE.is("new: run", x.run(0L, -1L), 0L);
        DUE.is("new: look at wire 0", x.look(0, false), 0);
        DUE.is("new: wire 0 is 0", x.run(0L, -1L), 0L);
    }

    private static void begin() {
        DUE.of("n WIRES, no ACTS, no CHECKS: true; false, changing nothing, for another n.");
        for (int n = 1; n <= 10; n++) {
            Tried x = wires(n);
            DUE.totals("begin " + n, x, n, 0, 0, 0, 0, 0);
            DUE.is("the last wire", x.gate(5, n - 1, 0), true);
            DUE.is("no wire behind it", x.gate(5, n, 0), false);
            DUE.is("look at the last wire", x.look(n - 1, false), 0);
            DUE.is("it is 1", x.outcome(0, 0), 1);
        }
        Tried x = wires(2);
        x.gate(0, 0, 0);
        x.gate(5, 1, 0);
        x.fault(0, 0, 3);
        x.look(0, false);
        x.check(1L);
        for (int n : new int[] {Integer.MIN_VALUE, -1, 0, 11, Integer.MAX_VALUE}) {
            DUE.is("begin(" + n + ")", x.begin(n), false);
            DUE.totals("after a wrong begin", x, 2, 4, 1, 1, 1, 1);
            DUE.is("the random look", x.outcome(0, 1), 1);
        }
        DUE.is("begin(2) again", x.begin(2), true);
        DUE.totals("begun again", x, 2, 0, 0, 0, 0, 0);
        DUE.is("no outcome", x.outcome(0, 0), -1);
        DUE.is("no fault", x.changes(0, 0), -1);
        DUE.is("no check", x.told(0, 0), -1);
        DUE.is("no edge", x.edge(0, 0), -1);
        DUE.is("look 0 again", x.look(0, false), 0);
        DUE.is("look 1 again", x.look(1, false), 1);
        DUE.is("both wires are 0", x.run(0L, -1L), 0L);
        DUE.is("fault 0 again", x.fault(2, 0, 3), 0);
        DUE.is("it has forgotten", x.changes(0, 0), 0);
        DUE.is("check 0 again", x.check(3L), 0);
        DUE.is("and that of checks", x.changes(0, 1), 0);
    }

    private static void gate() {
        DUE.of("A GATE (b counts for nothing but for 2, 3, 4): true;");
        Tried x = wires(3);
        int acts = 0;
        for (int kind = 0; kind <= 6; kind++) {
            boolean two = kind >= 2 && kind <= 4;
            DUE.is("gate " + kind, x.gate(kind, 2, 0), true);
            acts++;
            for (int b : new int[] {Integer.MIN_VALUE, -1, 2, 3, Integer.MAX_VALUE}) {
                DUE.is("gate(" + kind + ", 2, " + b + ")", x.gate(kind, 2, b), !two);
                acts += two ? 0 : 1;
            }
            for (int a : NUMBERS_OUTSIDE) {
                DUE.is("gate(" + kind + ", " + a + ", 0)", x.gate(kind, a, 0), false);
            }
            DUE.is("gate(" + kind + ", 3, 0)", x.gate(kind, 3, 0), false);
            DUE.totals("gate " + kind, x, 3, acts, 0, 0, 0, 0);
        }
        for (int kind : new int[] {Integer.MIN_VALUE, -1, 7, 8, 9, 32, Integer.MAX_VALUE}) {
            DUE.is("gate(" + kind + ", 0, 1)", x.gate(kind, 0, 1), false);
        }
        DUE.totals("wrong kinds", x, 3, acts, 0, 0, 0, 0);
        wrongGatesChangeNothing();
    }

    private static void wrongGatesChangeNothing() {
        DUE.of("false, changing nothing, if there is no such kind 0 .. 6, there are no such WIRES,");
        Tried x = wires(2);
        x.gate(5, 0, 0);
        x.fault(0, 0, 1);
        x.gate(2, 0, 0);
        x.gate(3, 0, 0);
        x.gate(4, 0, 2);
        x.gate(2, 0, -1);
        x.gate(5, 32, 0);
        x.gate(7, 0, 1);
        x.look(0, false);
        x.look(1, false);
        DUE.is("looks after wrong gates", x.run(0L, 0L), 1L);
        DUE.is("the fault after wrong gates", x.changes(0, 0), 1L);
    }

    private static void lookNumbers() {
        DUE.of("A LOOK at a WIRE (or, reset, a RESET): its number.");
        Tried x = wires(4);
        for (int i = 0; i < 60; i++) {
            for (int a : NUMBERS_OUTSIDE) {
                DUE.is("look(" + a + ")", x.look(a, i % 2 == 0), -1);
            }
            DUE.is("look(4)", x.look(4, i % 2 == 0), -1);
            DUE.is("look", x.look(i % 4, i % 3 == 0), i);
        }
        DUE.is("look 61", x.look(0, false), -1);
        DUE.is("reset 61", x.look(0, true), -1);
        DUE.totals("60 looks", x, 4, 60, 60, 0, 0, 0);
        DUE.is("gate still", x.gate(0, 0, 0), true);
        DUE.is("fault still", x.fault(0, 0, 0), 0);
    }

    private static void faultNumbers() {
        DUE.of("A FAULT: x, y, z (what 0 .. 2) of a WIRE, with odds k / 16: its number.");
        Tried x = wires(4);
        for (int i = 0; i < 40; i++) {
            DUE.is("fault", x.fault(i % 3, i % 4, i % 17), i);
        }
        DUE.is("fault 41", x.fault(0, 0, 1), -1);
        DUE.totals("40 faults", x, 4, 40, 0, 40, 0, 0);
        DUE.is("gate still", x.gate(0, 0, 0), true);
        DUE.is("look still", x.look(0, false), 0);

        x = wires(4);
        for (int wrong : NUMBERS_OUTSIDE) {
            DUE.is("what " + wrong, x.fault(wrong, 0, 1), -1);
            DUE.is("wire " + wrong, x.fault(0, wrong, 1), -1);
            DUE.is("k " + wrong, x.fault(0, 0, wrong), -1);
        }
        DUE.is("what 3", x.fault(3, 0, 1), -1);
        DUE.is("wire 4", x.fault(0, 4, 1), -1);
        DUE.is("k 17", x.fault(0, 0, 17), -1);
        DUE.totals("wrong faults", x, 4, 0, 0, 0, 0, 0);
        DUE.is("k 0", x.fault(0, 3, 0), 0);
        DUE.is("k 16", x.fault(2, 3, 16), 1);
    }

    private static void checkNumbers() {
        DUE.of("A CHECK: its number. NONE if a LOOK is not there (yet), or there are 16.");
        Tried x = wires(2);
        DUE.is("look 0 is not there yet", x.check(1L), -1);
        DUE.is("no looks", x.check(0L), 0);
        DUE.is("no looks: sure", x.told(0, 0), 1);
        DUE.is("no looks: constant", x.told(0, 1), 0);
        DUE.is("no looks: randoms", x.told(0, 2), 0);
        x.look(0, false);
        DUE.is("look 0 is there", x.check(1L), 1);
        DUE.is("look 1 is not", x.check(2L), -1);
        DUE.is("nor beside look 0", x.check(3L), -1);
        DUE.is("nor look 63", x.check(Long.MIN_VALUE), -1);
        DUE.is("nor all", x.check(-1L), -1);
        DUE.totals("two checks", x, 2, 1, 1, 0, 2, 0);
        for (int i = 2; i < 16; i++) {
            DUE.is("the same check", x.check(1L), i);
        }
        DUE.is("check 17", x.check(1L), -1);
        DUE.totals("16 checks are no acts", x, 2, 1, 1, 0, 16, 0);

        x = wires(1);
        for (int i = 0; i < 60; i++) {
            x.look(0, false);
        }
        DUE.is("all 60 looks", x.check((1L << 60) - 1), 0);
        DUE.is("look 59", x.check(1L << 59), 1);
        DUE.is("look 60", x.check(1L << 60), -1);
        DUE.is("all 64", x.check(-1L), -1);
    }

    private static void actsEnd() {
        DUE.of("ACTS, at most 300:");
        Tried x = wires(3);
        x.look(0, false);
        x.look(0, true);
        x.fault(0, 0, 1);
        for (int i = 3; i < 300; i++) {
            DUE.is("gate " + i, x.gate(5, 1, 0), true);
        }
        for (int kind = 0; kind <= 6; kind++) {
            DUE.is("gate 301", x.gate(kind, 0, 1), false);
        }
        DUE.is("look 301", x.look(0, false), -1);
        DUE.is("reset 301", x.look(0, true), -1);
        DUE.is("fault 301", x.fault(0, 0, 1), -1);
        DUE.totals("300 acts", x, 3, 300, 2, 1, 0, 0);
        DUE.is("a check is no act", x.check(3L), 0);
        DUE.is("begin", x.begin(3), true);
        DUE.is("gate", x.gate(0, 0, 0), true);

        x = wires(2);
        for (int i = 0; i < 299; i++) {
            x.gate(5, 1, 0);
        }
        DUE.is("look 300", x.look(1, false), 0);
        DUE.is("look 301", x.look(1, false), -1);
        DUE.is("299 times x", x.outcome(0, 0), 1);
    }

    private static void total() {
        DUE.of("What 0: WIRES, 1: ACTS, 2: LOOKS, 3: FAULTS, 4: CHECKS, 5: EDGES.");
        Tried x = wires(5);
        x.gate(0, 0, 0);
        x.fault(0, 1, 4);
        x.fault(0, 2, 4);
        x.look(1, false);
        x.look(2, true);
        x.look(3, false);
        DUE.totals("no edge without checks", x, 5, 6, 3, 2, 0, 0);
        x.check(1L);
        DUE.totals("one edge", x, 5, 6, 3, 2, 1, 1);
        x.check(2L);
        DUE.totals("two edges", x, 5, 6, 3, 2, 2, 2);
        for (int wrong : NUMBERS_OUTSIDE) {
            DUE.is("total(" + wrong + ")", x.total(wrong), -1);
        }
        DUE.is("total(6)", x.total(6), -1);
    }
}
