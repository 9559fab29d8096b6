/**
 * Runs of circuits of wires, gates, looks and faults, told without running the circuit again:
 * each look's outcome is kept as a constant and a set of random looks, each fault as the set of
 * looks that it changes.
 */
public final class FrameSamples {
    public static final int NONE = -1;

    private static final int MOST_WIRES = 10;
    private static final int MOST_ACTS = 300;
    private static final int MOST_LOOKS = 60;
    private static final int MOST_FAULTS = 40;
    private static final int MOST_CHECKS = 16;
    /** With more faults the odds' numerator, out of 16 to the faults' number, would leave a long. */
    private static final int MOST_FAULTS_WITH_ODDS = 15;
    private static final int CERTAIN = 16;
    private static final int CERTAIN_BITS = 4;

    private static final int GATE_H = 0;
    private static final int GATE_S = 1;
    private static final int GATE_CONTROLLED_X = 2;
    private static final int GATE_CONTROLLED_Z = 3;
    private static final int GATE_SWAP = 4;
    private static final int GATE_X = 5;
    private static final int GATE_Z = 6;

    private static final int FAULT_X = 0;
    private static final int FAULT_Y = 1;
    private static final int FAULT_Z = 2;

    private final Tableau tableau;
    private final int[] lookConstants;
    private final long[] lookRandoms;
    private final Fault[] faultRows;
    private final int[] checkConstants;
    private final long[] checkRandoms;
    private int wireCount;
    private int actCount;
    private int lookCount;
    private int faultCount;
    private int checkCount;

    public FrameSamples() {
        tableau = new Tableau();
        lookConstants = new int[MOST_LOOKS];
        lookRandoms = new long[MOST_LOOKS];
        faultRows = new Fault[MOST_FAULTS];
        for (int i = 0; i < MOST_FAULTS; i++) {
            faultRows[i] = new Fault();
        }
        checkConstants = new int[MOST_CHECKS];
        checkRandoms = new long[MOST_CHECKS];
        startOver(1);
    }

    public boolean begin(int n) {
        if (n < 1 || n > MOST_WIRES) {
            return false;
        }
        startOver(n);
        return true;
    }

    public boolean gate(int kind, int a, int b) {
        if (kind < GATE_H || kind > GATE_Z || !isWire(a) || actCount >= MOST_ACTS) {
            return false;
        }
        if (hasTwoWires(kind) && (!isWire(b) || a == b)) {
            return false;
        }
        tableau.pass(kind, a, b);
        for (int i = 0; i < faultCount; i++) {
            faultRows[i].frame.pass(kind, a, b);
        }
        actCount++;
        return true;
    }

    public int look(int a, boolean reset) {
        if (!isWire(a) || lookCount >= MOST_LOOKS || actCount >= MOST_ACTS) {
            return NONE;
        }
        int number = lookCount;
        Pauli seen = tableau.measure(a, number);
        lookConstants[number] = seen.constant;
        lookRandoms[number] = seen.randoms;
        if (reset) {
            tableau.flipIfTold(a, lookConstants[number], lookRandoms[number]);
        }
        for (int i = 0; i < faultCount; i++) {
            faultRows[i].meetLook(a, number, reset);
        }
        lookCount++;
        actCount++;
        return number;
    }

    public int fault(int what, int a, int k) {
        if (what < FAULT_X || what > FAULT_Z || !isWire(a) || k < 0 || k > CERTAIN) {
            return NONE;
        }
        if (faultCount >= MOST_FAULTS || actCount >= MOST_ACTS) {
            return NONE;
        }
        int number = faultCount;
        faultRows[number].start(what, a, k);
        faultCount++;
        actCount++;
        return number;
    }

    public int check(long looks) {
        if (looks >>> lookCount != 0L || checkCount >= MOST_CHECKS) {
            return NONE;
        }
        int number = checkCount;
        int constant = 0;
        long randoms = 0L;
        for (int i = 0; i < lookCount; i++) {
            if (has(looks, i)) {
                constant ^= lookConstants[i];
                randoms ^= lookRandoms[i];
            }
        }
        checkConstants[number] = constant;
        checkRandoms[number] = randoms;
        // All looks of the check are there, so later acts can't change which faults change it.
        for (int i = 0; i < faultCount; i++) {
            faultRows[i].meetCheck(number, looks);
        }
        checkCount++;
        return number;
    }

    public long outcome(int look, int what) {
        if (look < 0 || look >= lookCount) {
            return NONE;
        }
        switch (what) {
            case 0:
                return lookConstants[look];
            case 1:
                return lookRandoms[look];
            default:
                return NONE;
        }
    }

    public long told(int check, int what) {
        if (check < 0 || check >= checkCount) {
            return NONE;
        }
        switch (what) {
            case 0:
                return checkRandoms[check] == 0L ? 1L : 0L;
            case 1:
                return checkConstants[check];
            case 2:
                return checkRandoms[check];
            default:
                return NONE;
        }
    }

    public long changes(int fault, int what) {
        if (fault < 0 || fault >= faultCount) {
            return NONE;
        }
        switch (what) {
            case 0:
                return faultRows[fault].changedLooks;
            case 1:
                return faultRows[fault].changedChecks;
            default:
                return NONE;
        }
    }

    public long edge(int i, int what) throws ArithmeticException {
        int first = firstFaultOfEdge(i);
        if (first == NONE) {
            return NONE;
        }
        long members = faultsLike(first);
        switch (what) {
            case 0:
                return faultRows[first].changedChecks;
            case 1:
                return members;
            case 2:
                return oddsNumerator(members);
            case 3:
                return oddsExponent(members);
            default:
                return NONE;
        }
    }

    public long run(long faults, long tells) {
        if (faults >>> faultCount != 0L) {
            return NONE;
        }
        long seen = 0L;
        for (int i = 0; i < lookCount; i++) {
            long bit = lookConstants[i] ^ parity(lookRandoms[i] & tells);
            seen |= bit << i;
        }
        for (int i = 0; i < faultCount; i++) {
            if (has(faults, i)) {
                seen ^= faultRows[i].changedLooks;
            }
        }
        return seen;
    }

    public int total(int what) {
        switch (what) {
            case 0:
                return wireCount;
            case 1:
                return actCount;
            case 2:
                return lookCount;
            case 3:
                return faultCount;
            case 4:
                return checkCount;
            case 5:
                return countEdges();
            default:
                return NONE;
        }
    }

    private void startOver(int n) {
        tableau.start(n);
        wireCount = n;
        actCount = 0;
        lookCount = 0;
        faultCount = 0;
        checkCount = 0;
    }

    private boolean isWire(int a) {
        return a >= 0 && a < wireCount;
    }

    private static boolean hasTwoWires(int kind) {
        return kind == GATE_CONTROLLED_X || kind == GATE_CONTROLLED_Z || kind == GATE_SWAP;
    }

    private static boolean has(long set, int i) {
        return (set >>> i & 1L) != 0L;
    }

    private static int parity(long set) {
        return Long.bitCount(set) & 1;
    }

    private boolean isFirstOfEdge(int fault) {
        int checks = faultRows[fault].changedChecks;
        if (checks == 0) {
            return false;
        }
        for (int i = 0; i < fault; i++) {
            if (faultRows[i].changedChecks == checks) {
                return false;
            }
        }
        return true;
    }

    private int countEdges() {
        int edges = 0;
        for (int i = 0; i < faultCount; i++) {
            if (isFirstOfEdge(i)) {
                edges++;
            }
        }
        return edges;
    }

    private int firstFaultOfEdge(int edge) {
        int edges = 0;
        for (int i = 0; i < faultCount; i++) {
            if (isFirstOfEdge(i)) {
                if (edges == edge) {
                    return i;
                }
                edges++;
            }
        }
        return NONE;
    }

    private long faultsLike(int fault) {
        long members = 0L;
        for (int i = 0; i < faultCount; i++) {
            if (faultRows[i].changedChecks == faultRows[fault].changedChecks) {
                members |= 1L << i;
            }
        }
        return members;
    }

    /** In how many of 16 to the members' number equal cases an odd number of members happens. */
    private long oddCases(long members) throws ArithmeticException {
        if (Long.bitCount(members) > MOST_FAULTS_WITH_ODDS) {
            throw new ArithmeticException("more than 15 faults in an edge");
        }
        long odd = 0L;
        long even = 1L;
        for (int i = 0; i < faultCount; i++) {
            if (has(members, i)) {
                long k = faultRows[i].odds;
                long nextOdd = odd * (CERTAIN - k) + even * k;
                even = even * (CERTAIN - k) + odd * k;
                odd = nextOdd;
            }
        }
        return odd;
    }

    private long oddsNumerator(long members) throws ArithmeticException {
        long odd = oddCases(members);
        return odd >>> sharedTwos(odd, members);
    }

    private long oddsExponent(long members) throws ArithmeticException {
        long odd = oddCases(members);
        return CERTAIN_BITS * Long.bitCount(members) - sharedTwos(odd, members);
    }

    /** How often both odd and 16 to the members' number can be halved; of odd 0 the latter rules. */
    private static int sharedTwos(long odd, long members) {
        return Math.min(Long.numberOfTrailingZeros(odd), CERTAIN_BITS * Long.bitCount(members));
    }

    /**
     * A product of x's and z's (both on one wire: a y), with a sign: minus if the exclusive or of
     * the constant and of what the random looks told is 1.
     */
    private static final class Pauli {
        private int xs;
        private int zs;
        private int constant;
        private long randoms;

        void become(int newXs, int newZs) {
            xs = newXs;
            zs = newZs;
            constant = 0;
            randoms = 0L;
        }

        void copyFrom(Pauli other) {
            xs = other.xs;
            zs = other.zs;
            constant = other.constant;
            randoms = other.randoms;
        }

        int xOn(int a) {
            return xs >>> a & 1;
        }

        int zOn(int a) {
            return zs >>> a & 1;
        }

        void pass(int kind, int a, int b) {
            switch (kind) {
                case GATE_H:
                    passH(a);
                    break;
                case GATE_S:
                    passS(a);
                    break;
                case GATE_CONTROLLED_X:
                    passControlledX(a, b);
                    break;
                case GATE_CONTROLLED_Z:
                    passH(b);
                    passControlledX(a, b);
                    passH(b);
                    break;
                case GATE_SWAP:
                    xs = swapBits(xs, a, b);
                    zs = swapBits(zs, a, b);
                    break;
                case GATE_X:
                    constant ^= zOn(a);
                    break;
                case GATE_Z:
                    constant ^= xOn(a);
                    break;
                default:
                    break;
            }
        }

        private void passH(int a) {
            constant ^= xOn(a) & zOn(a);
            int both = (xOn(a) ^ zOn(a)) << a;
            xs ^= both;
            zs ^= both;
        }

        private void passS(int a) {
            constant ^= xOn(a) & zOn(a);
            zs ^= xOn(a) << a;
        }

        private void passControlledX(int a, int b) {
            constant ^= xOn(a) & zOn(b) & (xOn(b) ^ zOn(a) ^ 1);
            xs ^= xOn(a) << b;
            zs ^= zOn(b) << a;
        }

        private static int swapBits(int bits, int a, int b) {
            int differ = (bits >>> a ^ bits >>> b) & 1;
            return bits ^ (differ << a | differ << b);
        }

        /** The product with one that commutes with this; of another the sign means nothing. */
        void multiplyBy(Pauli other) {
            int ys = other.xs & other.zs;
            int onlyXs = other.xs & ~other.zs;
            int onlyZs = other.zs & ~other.xs;
            // On each wire x y, y z and z x bring the factor i, the other way round -i.
            int plus = ys & zs & ~xs | onlyXs & xs & zs | onlyZs & xs & ~zs;
            int minus = ys & xs & ~zs | onlyXs & zs & ~xs | onlyZs & xs & zs;
            int quarters = Integer.bitCount(plus) - Integer.bitCount(minus);
            constant ^= other.constant ^ quarters >> 1 & 1;
            randoms ^= other.randoms;
            xs ^= other.xs;
            zs ^= other.zs;
        }
    }

    /**
     * The wires' state without faults: for each wire a keeper, which leaves the state as it is, and
     * a partner, which commutes with all keepers but that one.
     */
    private static final class Tableau {
        private final Pauli[] keepers;
        private final Pauli[] partners;
        private final Pauli product;
        private int wires;

        Tableau() {
            keepers = new Pauli[MOST_WIRES];
            partners = new Pauli[MOST_WIRES];
            for (int i = 0; i < MOST_WIRES; i++) {
                keepers[i] = new Pauli();
                partners[i] = new Pauli();
            }
            product = new Pauli();
        }

        void start(int n) {
            wires = Math.min(n, MOST_WIRES);
            for (int i = 0; i < wires; i++) {
                keepers[i].become(0, 1 << i);
                partners[i].become(1 << i, 0);
            }
        }

        void pass(int kind, int a, int b) {
            for (int i = 0; i < wires; i++) {
                keepers[i].pass(kind, a, b);
                partners[i].pass(kind, a, b);
            }
        }

        /** A look at a: the answer is z of a, whose sign is the look's outcome. */
        Pauli measure(int a, int number) {
            for (int i = 0; i < wires; i++) {
                if (keepers[i].xOn(a) == 1) {
                    return collapse(i, a, number);
                }
            }
            return zFromKeepers(a);
        }

        private Pauli collapse(int pivot, int a, int number) {
            Pauli old = keepers[pivot];
            for (int i = 0; i < wires; i++) {
                if (i != pivot && keepers[i].xOn(a) == 1) {
                    keepers[i].multiplyBy(old);
                }
                if (i != pivot && partners[i].xOn(a) == 1) {
                    partners[i].multiplyBy(old);
                }
            }
            partners[pivot].copyFrom(old);
            old.become(0, 1 << a);
            old.randoms = 1L << number;
            return old;
        }

        /** No keeper has an x on a, so z of a is the product of those whose partners have one. */
        private Pauli zFromKeepers(int a) {
            product.become(0, 0);
            for (int i = 0; i < wires; i++) {
                if (partners[i].xOn(a) == 1) {
                    product.multiplyBy(keepers[i]);
                }
            }
            return product;
        }

        /** An x of a that happens if a look with this outcome told 1. */
        void flipIfTold(int a, int constant, long randoms) {
            for (int i = 0; i < wires; i++) {
                if (keepers[i].zOn(a) == 1) {
                    keepers[i].constant ^= constant;
                    keepers[i].randoms ^= randoms;
                }
            }
        }
    }

    /** A fault: what has become of it on its way, and the looks and checks that it changes. */
    private static final class Fault {
        private final Pauli frame;
        private int odds;
        private long changedLooks;
        private int changedChecks;

        Fault() {
            frame = new Pauli();
        }

        void start(int what, int a, int k) {
            int xs = what == FAULT_X || what == FAULT_Y ? 1 << a : 0;
            int zs = what == FAULT_Z || what == FAULT_Y ? 1 << a : 0;
            frame.become(xs, zs);
            odds = k;
            changedLooks = 0L;
            changedChecks = 0;
        }

        void meetLook(int a, int number, boolean reset) {
            changedLooks |= (long) frame.xOn(a) << number;
            frame.zs &= ~(1 << a);
            if (reset) {
                frame.xs &= ~(1 << a);
            }
        }

        void meetCheck(int number, long looks) {
            changedChecks |= parity(changedLooks & looks) << number;
        }
    }
}
