import java.util.List;
import java.util.Random;
import java.util.function.Consumer;

/** What the class is as a whole, and what the document leaves free. */
public final class WholeTest {
    private static final Due DUE = new Due();
    private static final Limits LIMITS = new Limits(DUE);
    private static final Oracle ORACLE = new Oracle(DUE);
    private static final int CIRCUITS = 60;
    private static final List<Consumer<Tried>> STATES = List.of(x -> { }, Limits::some, Limits::full);

    public static void main(String[] args) throws InterruptedException {
        runsWithoutTheCircuit();
        looksByWhatWasRandom();
        looksThatFaultsChange();
        faultsTogether();
        runsByTheseAlone();
        laterCalls();
        stateIsHidden();
        namesOfObjects();
        objectsInThreads();
        askingChangesNothing();
        DUE.end();
    }

    private static Circuit circuit(int seed) {
        Random random = new Random(seed);
        Circuit circuit = Circuit.byChance(random, 1 + seed % 5, 80, Circuit.FAULT);
        for (int i = 0; i < 8; i++) {
            circuit.checks.add(random.nextLong() & random.nextLong() & Limits.all(circuit.looks()));
        }
        return circuit;
    }

    private static void runsWithoutTheCircuit() {
        DUE.of("Runs of circuits that can be told without the circuit:");
        for (int seed = 0; seed < CIRCUITS; seed++) {
            Circuit circuit = circuit(seed);
            Tried x = circuit.built();
            Random random = new Random(seed);
            long[] randoms = new long[1];
            circuit.sample(0L, randoms);
            for (int i = 0; i < 10; i++) {
                long faults = random.nextLong() & Limits.all(circuit.faults());
                ORACLE.compareRun(x, circuit, faults, random.nextLong(), randoms[0], "seed " + seed);
            }
        }
    }

    private static void looksByWhatWasRandom() {
        DUE.of("what each look at a wire tells, by what was random before;");
        for (int seed = 0; seed < CIRCUITS; seed++) {
            ORACLE.compareOutcomes(circuit(seed).built(), circuit(seed), "seed " + seed);
        }
    }

    private static void looksThatFaultsChange() {
        DUE.of("which looks a fault changes;");
        for (int seed = 0; seed < CIRCUITS; seed++) {
            ORACLE.compareChanges(circuit(seed).built(), circuit(seed), "seed " + seed);
        }
    }

    private static void faultsTogether() {
        DUE.of("faults that change the same checks taken together, with exact odds;");
        for (int seed = 0; seed < CIRCUITS; seed++) {
            ORACLE.compareEdges(circuit(seed).built(), circuit(seed), "seed " + seed);
        }
    }

    private static void runsByTheseAlone() {
        DUE.of("runs with faults, told by these alone.");
        for (int seed = 0; seed < CIRCUITS; seed++) {
            Tried x = circuit(seed).built();
            Random random = new Random(seed);
            for (int i = 0; i < 10; i++) {
                long faults = random.nextLong() & Limits.all(x.total(3));
                long tells = random.nextLong();
                DUE.is("seed " + seed + ": run", x.run(faults, tells), byTheseAlone(x, faults, tells));
            }
        }
    }

    private static long byTheseAlone(Tried x, long faults, long tells) {
        long told = 0L;
        for (int i = 0; i < x.total(2); i++) {
            long odd = Long.bitCount(x.outcome(i, 1) & tells) & 1;
            told |= (x.outcome(i, 0) ^ odd) << i;
        }
        for (int i = 0; i < x.total(3); i++) {
            told ^= (faults >>> i & 1) != 0 ? x.changes(i, 0) : 0L;
        }
        return told;
    }

    /** Whatever they answer, they end, and nothing but the face's one exception is thrown. */
    private static void laterCalls() {
        DUE.of("what later calls answer is free.");
        Random random = new Random(512);
        FrameSamples x = new FrameSamples();
        x.begin(10);
        int answered = 0;
        for (int i = 0; i < 20000; i++) {
            answered += anyCall(x, random) ? 1 : 0;
        }
        DUE.is("all have answered", answered, 20000);
        DUE.totals("a new object", new Tried(), 1, 0, 0, 0, 0, 0);
    }

    private static boolean anyCall(FrameSamples x, Random random) {
        int a = anyNumber(random);
        int b = anyNumber(random);
        long set = random.nextLong() >>> random.nextInt(64);
        try {
            switch (random.nextInt(40)) {
                case 0:
                    x.begin(a);
                    break;
                case 1, 2, 3:
                    x.look(a, random.nextBoolean());
                    break;
                case 4, 5, 6:
                    x.fault(random.nextInt(4), a, anyNumber(random));
                    break;
                case 7:
                    x.check(set);
                    break;
                case 8:
                    x.outcome(a, b);
                    break;
                case 9:
                    x.told(a, b);
                    break;
                case 10:
                    x.changes(a, b);
                    break;
                case 11:
                    x.edge(a, b);
                    break;
                case 12:
                    x.run(set, random.nextLong());
                    break;
                case 13:
                    x.total(a);
                    break;
                default:
                    x.gate(random.nextInt(8), a, b);
                    break;
            }
        } catch (ArithmeticException e) {
            return e.getMessage().startsWith("more than 15 faults");
        }
        return true;
    }

    private static int anyNumber(Random random) {
        return random.nextInt(20) == 0 ? random.nextInt() : random.nextInt(12) - 1;
    }

    /** Gates that come to nothing leave rows of another look behind, but no other answer. */
    private static void stateIsHidden() {
        DUE.of("How the state is held inside the object is free, as are the speed of each call,");
        LIMITS.comeToTheSame(x -> {
            Limits.some(x);
            for (int i = 0; i < 8; i++) {
                x.gate(2, i % 2, 2);
                x.gate(2, i % 2, 2);
            }
        }, x -> {
            Limits.some(x);
            for (int i = 0; i < 8; i++) {
                x.gate(4, 0, 1 + i % 2);
                x.gate(4, 0, 1 + i % 2);
            }
        });
    }

    private static void namesOfObjects() {
        DUE.of("the text of toString and the behaviour of equals and hashCode.");
        FrameSamples x = new FrameSamples();
        FrameSamples twin = new FrameSamples();
        for (int i = 0; i < 50; i++) {
            DUE.is("gate", x.gate(i % 2, 0, 0), twin.gate(i % 2, 0, 0));
            DUE.is("there is a text", x.toString().length() + x.hashCode() != 0 || x.equals(twin), true);
            DUE.is("look", x.look(0, i % 3 == 0), twin.look(0, i % 3 == 0));
            DUE.is("constant", x.outcome(i, 0), twin.outcome(i, 0));
            DUE.is("randoms", x.outcome(i, 1), twin.outcome(i, 1));
        }
    }

    /** One object in several threads isn't promised; one in each is: they share nothing. */
    private static void objectsInThreads() throws InterruptedException {
        DUE.of("Use of one object from several threads at once is not promised to be safe.");
        Thread[] threads = new Thread[4];
        long[] sums = new long[threads.length];
        for (int i = 0; i < threads.length; i++) {
            int number = i;
            threads[i] = new Thread(() -> sums[number] = answersOf(number));
            threads[i].start();
        }
        for (Thread thread : threads) {
            thread.join();
        }
        for (int i = 0; i < threads.length; i++) {
            DUE.is("thread " + i, sums[i], answersOf(i));
        }
        objectsByTurns();
    }

    private static long answersOf(int number) {
        long sum = 0L;
        for (int seed = number; seed < 40; seed += 4) {
            Tried x = circuit(seed).built();
            for (int i = 0; i < x.total(2); i++) {
                sum = sum * 31L + x.outcome(i, 0) + x.outcome(i, 1);
            }
            sum = sum * 31L + x.run(Limits.all(x.total(3)), -1L) + x.total(5);
        }
        return sum;
    }

    private static void objectsByTurns() {
        FrameSamples x = new FrameSamples();
        FrameSamples other = new FrameSamples();
        other.begin(2);
        for (int i = 0; i < 40; i++) {
            x.gate(0, 0, 0);
            other.gate(5, 1, 0);
            x.fault(0, 0, 16);
            DUE.is("look", x.look(0, true), i);
            DUE.is("look of the other", other.look(1, false), i);
            DUE.is("random", x.outcome(i, 1), 1L << i);
            DUE.is("sure", other.outcome(i, 0), 1 - i % 2);
            DUE.is("changed", x.changes(i, 0), 1L << i);
            DUE.is("no faults", other.total(3), 0);
        }
    }

    private static void askingChangesNothing() {
        DUE.of("Nothing is promised beyond the answers and state changes described above,");
        for (Consumer<Tried> state : STATES) {
            LIMITS.changeNothing(state, x -> {
                for (int i = -1; i <= 60; i++) {
                    x.outcome(i, i % 2);
                    x.told(i, i % 3);
                    x.changes(i, i % 2);
                    x.edge(i, i % 2);
                    x.run(1L << i, 1L << i);
                    x.total(i);
                }
            });
        }
        DUE.of("and nothing about an object after its 512th call.");
        FrameSamples x = new FrameSamples();
        for (int call = 1; call <= 511; call++) {
            DUE.is("begin, call " + call, x.begin(1 + call % 10), true);
        }
        DUE.is("call 512", x.total(0), 1 + 511 % 10);
    }
}
