/** Compares answers with those that are due, and counts the wrong ones. */
final class Due {
    private int wrong;
    private int looked;

    void is(String call, long got, long want) {
        looked++;
        if (got != want) {
            wrong++;
            System.out.println(call + " answered " + got + ", due is " + want);
        }
    }

    void is(String call, boolean got, boolean want) {
        is(call, got ? 1L : 0L, want ? 1L : 0L);
    }

    /** An edge's u or e where the document asks for an ArithmeticException. */
    void edgeThrows(FrameSamples x, int i, int what) {
        boolean thrown = false;
        try {
            x.edge(i, what);
        } catch (ArithmeticException e) {
            thrown = true;
        }
        is("edge(" + i + ", " + what + ") throws ArithmeticException", thrown, true);
    }

    /** All totals at once: wires, acts, looks, faults, checks, edges. */
    void totals(String when, FrameSamples x, int... wants) {
        for (int what = 0; what < wants.length; what++) {
            is(when + ": total(" + what + ")", x.total(what), wants[what]);
        }
    }

    boolean allRight() {
        return wrong == 0;
    }

    void end() {
        System.out.println(looked + " answers, " + wrong + " of them wrong");
        if (wrong != 0 || looked == 0) {
            System.exit(1);
        }
    }
}
