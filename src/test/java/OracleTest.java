import java.util.ArrayList;
import java.util.Collections;
import java.util.List;
import java.util.Random;

/** Circuits by chance (of fixed seeds), each answer compared with a run on all amplitudes. */
public final class OracleTest {
    private static final Due DUE = new Due();
    private static final Oracle ORACLE = new Oracle(DUE);

    public static void main(String[] args) {
        for (int seed = 0; seed < 1500 && DUE.allRight(); seed++) {
            Random random = new Random(seed);
            Tried x = new Tried();
            compareAnew(x, random, seed, 1 + random.nextInt(5), 1 + random.nextInt(120));
            // The same object again, so that nothing of the first circuit may be left.
            compareAnew(x, random, seed, 1 + random.nextInt(4), 1 + random.nextInt(60));
        }
        for (int seed = 5000; seed < 5012 && DUE.allRight(); seed++) {
            compareAnew(new Tried(), new Random(seed), seed, 6 + seed % 5, 420);
        }
        for (int seed = 6000; seed < 6010 && DUE.allRight(); seed++) {
            compareFull(new Random(seed), seed, 1 + seed % 10);
        }
        DUE.end();
    }

    private static void compareAnew(Tried x, Random random, int seed, int wires, int calls) {
        Circuit circuit = new Circuit(wires);
        DUE.is("seed " + seed + ": begin", x.begin(wires), true);
        int looking = 3 + random.nextInt(12);
        for (int i = 0; i < calls; i++) {
            int choice = random.nextInt(20);
            if (choice == 0) {
                addCheck(x, circuit, random, seed);
            } else if (choice <= 2) {
                addFault(x, circuit, random, seed);
            } else if (random.nextInt(looking) == 0) {
                addLook(x, circuit, random, seed);
            } else {
                addGate(x, circuit, random, seed);
            }
            if (random.nextInt(60) == 0) {
                ORACLE.compare(x, circuit, random, "seed " + seed);
            }
        }
        ORACLE.compare(x, circuit, random, "seed " + seed);
    }

    /** All limits at once: 300 acts, of them 60 looks and 40 faults, and 16 checks. */
    private static void compareFull(Random random, int seed, int wires) {
        Tried x = new Tried();
        Circuit circuit = new Circuit(wires);
        DUE.is("seed " + seed + ": begin", x.begin(wires), true);
        List<Integer> order = new ArrayList<>();
        for (int i = 0; i < 300; i++) {
            order.add(i);
        }
        Collections.shuffle(order, random);
        for (int i : order) {
            addOneOf(x, circuit, random, seed, i);
            if (i % 15 == 0 && circuit.checks.size() < 15) {
                addCheck(x, circuit, random, seed);
            }
        }
        for (int i = 0; i < 20; i++) {
            addCheck(x, circuit, random, seed);
        }
        ORACLE.compare(x, circuit, random, "seed " + seed);
        DUE.totals("seed " + seed + ": full", x, wires, 300, 60, 40, 16);
        addGate(x, circuit, random, seed);
        addLook(x, circuit, random, seed);
        addFault(x, circuit, random, seed);
        addCheck(x, circuit, random, seed);
        ORACLE.compare(x, circuit, random, "seed " + seed);
    }

    /** Of 300: 60 looks, 40 faults, 200 gates, each tried until it is taken. */
    private static void addOneOf(Tried x, Circuit circuit, Random random, int seed, int i) {
        int acts = circuit.acts.size();
        for (int tries = 0; tries < 100 && circuit.acts.size() == acts; tries++) {
            if (i < 60) {
                addLook(x, circuit, random, seed);
            } else if (i < 100) {
                addFault(x, circuit, random, seed);
            } else {
                addGate(x, circuit, random, seed);
            }
        }
    }

    /** A number that is mostly one of 0 .. size - 1. */
    private static int mostlyBelow(int size, Random random) {
        return random.nextInt(30) == 0 ? random.nextInt(5) * size - 1 : random.nextInt(size);
    }

    private static void addGate(Tried x, Circuit circuit, Random random, int seed) {
        int kind = mostlyBelow(7, random);
        int a = mostlyBelow(circuit.wires, random);
        int b = mostlyBelow(circuit.wires, random);
        boolean two = kind >= 2 && kind <= 4;
        boolean good = kind >= 0 && kind < 7 && a >= 0 && a < circuit.wires && circuit.acts.size() < 300
            && (!two || b >= 0 && b < circuit.wires && a != b);
        DUE.is("seed " + seed + ": gate(" + kind + ", " + a + ", " + b + ")", x.gate(kind, a, b), good);
        if (good) {
            circuit.add(kind, a, b);
        }
    }

    private static void addLook(Tried x, Circuit circuit, Random random, int seed) {
        int a = mostlyBelow(circuit.wires, random);
        boolean reset = random.nextInt(3) == 0;
        int number = circuit.looks();
        boolean good = a >= 0 && a < circuit.wires && number < 60 && circuit.acts.size() < 300;
        DUE.is("seed " + seed + ": look(" + a + ", " + reset + ")", x.look(a, reset), good ? number : -1);
        if (good) {
            circuit.add(reset ? Circuit.RESET : Circuit.LOOK, a, 0);
        }
    }

    private static void addFault(Tried x, Circuit circuit, Random random, int seed) {
        int what = mostlyBelow(3, random);
        int a = mostlyBelow(circuit.wires, random);
        int k = mostlyBelow(17, random);
        int number = circuit.faults();
        boolean good = what >= 0 && what < 3 && a >= 0 && a < circuit.wires && k >= 0 && k <= 16
            && number < 40 && circuit.acts.size() < 300;
        DUE.is("seed " + seed + ": fault(" + what + ", " + a + ", " + k + ")", x.fault(what, a, k),
            good ? number : -1);
        if (good) {
            circuit.addFault(what, a, k);
        }
    }

    private static void addCheck(Tried x, Circuit circuit, Random random, int seed) {
        int looks = circuit.looks();
        long there = (1L << looks) - 1;
        long set = random.nextLong() & there;
        if (random.nextInt(3) != 0) {
            set &= random.nextLong() & random.nextLong();
        }
        if (random.nextInt(15) == 0) {
            set |= 1L << looks + random.nextInt(64 - looks);
        }
        boolean good = (set & ~there) == 0L && circuit.checks.size() < 16;
        DUE.is("seed " + seed + ": check(" + set + ")", x.check(set), good ? circuit.checks.size() : -1);
        if (good) {
            circuit.checks.add(set);
        }
    }
}
