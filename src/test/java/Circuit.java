import java.math.BigInteger;
import java.util.ArrayList;
import java.util.LinkedHashMap;
import java.util.List;
import java.util.Map;
import java.util.Random;

/** A circuit as a list of acts, run act by act on all amplitudes, and its faults followed one by one. */
final class Circuit {
    static final int LOOK = 7;
    static final int RESET = 8;
    static final int FAULT = 9;

    final int wires;
    /** Of each act: kind (9 of a fault), a, b (of a fault: what), k. */
    final List<int[]> acts = new ArrayList<>();
    final List<Long> checks = new ArrayList<>();
    /** How far, in the last sample, a look's odds of 1 were from the nearest of 0, 1/2 and 1. */
    double furthest;
    private double[] re;
    private double[] im;

    Circuit(int wires) {
        this.wires = wires;
    }

    /** A circuit of acts that are all taken; kinds up to the given one. */
    static Circuit byChance(Random random, int wires, int acts, int mostKind) {
        Circuit circuit = new Circuit(wires);
        while (circuit.acts.size() < acts) {
            int kind = random.nextInt(mostKind + 1);
            int a = random.nextInt(wires);
            int b = (a + 1 + random.nextInt(Math.max(wires - 1, 1))) % wires;
            if (kind == FAULT) {
                circuit.addFault(random.nextInt(3), a, random.nextInt(17));
            } else if (a != b || kind < 2 || kind > 4) {
                circuit.add(kind, a, b);
            }
        }
        return circuit;
    }

    /** A gate, look or reset. */
    Circuit add(int kind, int a, int b) {
        acts.add(new int[] {kind, a, b, 0});
        return this;
    }

    Circuit addFault(int what, int a, int k) {
        acts.add(new int[] {FAULT, a, what, k});
        return this;
    }

    /** An object with this circuit. */
    Tried built() {
        Tried x = new Tried();
        x.begin(wires);
        for (int[] act : acts) {
            if (act[0] == FAULT) {
                x.fault(act[2], act[1], act[3]);
            } else if (act[0] >= LOOK) {
                x.look(act[1], act[0] == RESET);
            } else {
                x.gate(act[0], act[1], act[2]);
            }
        }
        for (long looks : checks) {
            x.check(looks);
        }
        return x;
    }

    int count(int least, int most) {
        int n = 0;
        for (int[] act : acts) {
            n += act[0] >= least && act[0] <= most ? 1 : 0;
        }
        return n;
    }

    int looks() {
        return count(LOOK, RESET);
    }

    int faults() {
        return count(FAULT, FAULT);
    }

    /** Without faults: what the looks tell, random ones as in tells; random ones are put in seen[0]. */
    long sample(long tells, long[] seen) {
        start();
        long told = 0L;
        int look = 0;
        seen[0] = 0L;
        furthest = 0.0;
        for (int[] act : acts) {
            if (act[0] == FAULT) {
                continue;
            }
            if (act[0] < LOOK) {
                apply(act[0], act[1], act[2]);
                continue;
            }
            double one = oddsOfOne(act[1]);
            furthest = Math.max(furthest, Math.abs(one - Math.rint(2 * one) / 2));
            boolean random = one > 0.25 && one < 0.75;
            seen[0] |= random ? 1L << look : 0L;
            int bit = random ? (int) (tells >>> look & 1) : one > 0.5 ? 1 : 0;
            collapse(act[1], bit, act[0] == RESET);
            told |= (long) bit << look;
            look++;
        }
        return told;
    }

    /** The least odds, over the looks, of telling this, halves of the random ones left out. */
    double leastOdds(long told, long faults, long randoms) {
        start();
        double least = 1.0;
        int look = 0;
        int fault = 0;
        for (int[] act : acts) {
            if (act[0] == FAULT) {
                if ((faults >>> fault & 1) != 0) {
                    happen(act[2], act[1]);
                }
                fault++;
            } else if (act[0] < LOOK) {
                apply(act[0], act[1], act[2]);
            } else {
                int bit = (int) (told >>> look & 1);
                double odds = bit == 1 ? oddsOfOne(act[1]) : 1.0 - oddsOfOne(act[1]);
                least = Math.min(least, (randoms >>> look & 1) != 0 ? 2 * Math.min(odds, 1 - odds) : odds);
                if (least < 0.9) {
                    return least;
                }
                collapse(act[1], bit, act[0] == RESET);
                look++;
            }
        }
        return least;
    }

    private void start() {
        re = new double[1 << wires];
        im = new double[1 << wires];
        re[0] = 1.0;
    }

    private void happen(int what, int a) {
        if (what != 2) {
            apply(5, a, 0);
        }
        if (what != 0) {
            apply(6, a, 0);
        }
    }

    private void apply(int kind, int a, int b) {
        double[] newRe = new double[re.length];
        double[] newIm = new double[re.length];
        double half = Math.sqrt(0.5);
        for (int i = 0; i < re.length; i++) {
            int bitA = i >> a & 1;
            int bitB = kind >= 2 && kind <= 4 ? i >> b & 1 : 0;
            switch (kind) {
                case 0:
                    int zero = i & ~(1 << a);
                    int one = i | 1 << a;
                    newRe[zero] += half * re[i];
                    newIm[zero] += half * im[i];
                    newRe[one] += (bitA == 1 ? -half : half) * re[i];
                    newIm[one] += (bitA == 1 ? -half : half) * im[i];
                    break;
                case 1:
                    newRe[i] = bitA == 1 ? -im[i] : re[i];
                    newIm[i] = bitA == 1 ? re[i] : im[i];
                    break;
                case 3:
                case 6:
                    int minus = kind == 3 ? bitA & bitB : bitA;
                    newRe[i] = minus == 1 ? -re[i] : re[i];
                    newIm[i] = minus == 1 ? -im[i] : im[i];
                    break;
                default:
                    int to = kind == 5 ? i ^ 1 << a : kind == 2 ? i ^ bitA << b
                        : i & ~(1 << a | 1 << b) | bitA << b | bitB << a;
                    newRe[to] = re[i];
                    newIm[to] = im[i];
                    break;
            }
        }
        re = newRe;
        im = newIm;
    }

    private double oddsOfOne(int a) {
        double one = 0.0;
        for (int i = 0; i < re.length; i++) {
            one += (i >> a & 1) == 1 ? re[i] * re[i] + im[i] * im[i] : 0.0;
        }
        return one;
    }

    private void collapse(int a, int bit, boolean reset) {
        double one = oddsOfOne(a);
        double scale = 1.0 / Math.sqrt(bit == 1 ? one : 1.0 - one);
        for (int i = 0; i < re.length; i++) {
            boolean stays = (i >> a & 1) == bit;
            re[i] = stays ? re[i] * scale : 0.0;
            im[i] = stays ? im[i] * scale : 0.0;
        }
        if (reset && bit == 1) {
            apply(5, a, 0);
        }
    }

    /** The looks that a fault changes, wire by wire as the document's words say. */
    long changed(int fault) {
        boolean[] x = new boolean[wires];
        boolean[] z = new boolean[wires];
        long changed = 0L;
        int faults = 0;
        int look = 0;
        for (int[] act : acts) {
            int a = act[1];
            if (act[0] == FAULT) {
                if (faults == fault) {
                    x[a] = act[2] != 2;
                    z[a] = act[2] != 0;
                }
                faults++;
            } else if (act[0] >= LOOK) {
                changed |= x[a] ? 1L << look : 0L;
                look++;
                z[a] = false;
                x[a] = x[a] && act[0] == LOOK;
            } else {
                goOn(x, z, act[0], a, act[2]);
            }
        }
        return changed;
    }

    private static void goOn(boolean[] x, boolean[] z, int kind, int a, int b) {
        boolean oldX = x[a];
        boolean oldZ = z[a];
        switch (kind) {
            case 0:
                x[a] = oldZ;
                z[a] = oldX;
                break;
            case 1:
                z[a] = oldX != oldZ;
                break;
            case 2:
                x[b] = x[b] != oldX;
                z[a] = oldZ != z[b];
                break;
            case 3:
                z[b] = z[b] != oldX;
                z[a] = oldZ != x[b];
                break;
            case 4:
                x[a] = x[b];
                z[a] = z[b];
                x[b] = oldX;
                z[b] = oldZ;
                break;
            default:
                break;
        }
    }

    long changedChecks(int fault) {
        long looks = changed(fault);
        long set = 0L;
        for (int c = 0; c < checks.size(); c++) {
            set |= (Long.bitCount(looks & checks.get(c)) % 2L) << c;
        }
        return set;
    }

    /** Each edge's checks with its faults, in the order of their first faults. */
    Map<Long, Long> edges() {
        Map<Long, Long> edges = new LinkedHashMap<>();
        for (int f = 0; f < faults(); f++) {
            long set = changedChecks(f);
            if (set != 0L) {
                edges.merge(set, 1L << f, (old, more) -> old | more);
            }
        }
        return edges;
    }

    /** u and e of these faults' odds, each case of an odd number of them counted. */
    long[] odds(long faults) {
        List<Integer> ks = new ArrayList<>();
        int fault = 0;
        for (int[] act : acts) {
            if (act[0] == FAULT) {
                if ((faults >>> fault & 1) != 0) {
                    ks.add(act[3]);
                }
                fault++;
            }
        }
        BigInteger cases = BigInteger.ZERO;
        for (int set = 0; set < 1 << ks.size(); set++) {
            if (Integer.bitCount(set) % 2 == 1) {
                long product = 1L;
                for (int i = 0; i < ks.size(); i++) {
                    product *= (set >> i & 1) != 0 ? ks.get(i) : 16 - ks.get(i);
                }
                cases = cases.add(BigInteger.valueOf(product));
            }
        }
        int e = 4 * ks.size();
        while (e > 0 && !cases.testBit(0)) {
            cases = cases.shiftRight(1);
            e--;
        }
        return new long[] {cases.longValueExact(), e};
    }
}
