/** Promises 17 to 20: fleet, hold, sent, best. */
public final class FleetTest {
    private static final int[] BASE = Fill.scattered(7, 60);

    public static void main(String[] args) {
        wrongInputs();
        sums();
        greatestVersion();
        bestSets();
        Due.end();
    }

    /** Versions 0 to 3, each the one before shifted by one: a patch costs 8, the whole 63. */
    private static PatchBench shifts() {
        PatchBench bench = new PatchBench();
        for (int v = 0; v < 4; v++) {
            Fill.version(bench, v, Fill.shifted(BASE, v));
        }
        return bench;
    }

    private static void wrongInputs() {
        PatchBench bench = new PatchBench();
        Due.no("hold of none", bench.hold(0, 1, true));
        Due.no("fleet of none", bench.fleet(0, 1));
        Fill.version(bench, 0, BASE);
        Fill.version(bench, 1, BASE);
        Due.no("fleet(-1, 1)", bench.fleet(-1, 1));
        Due.no("fleet(5, 1)", bench.fleet(5, 1));
        Due.no("fleet(2, 1)", bench.fleet(2, 1));
        Due.no("fleet(0, -1)", bench.fleet(0, -1));
        Due.no("fleet(0, 1001)", bench.fleet(0, 1001));
        Due.yes("fleet(0, 1000)", bench.fleet(0, 1000));
        Due.no("a wrong one does nothing", bench.fleet(0, 1001));
        Due.same("sent of 1000", bench.sent(), 63000);
        Due.yes("fleet(0, 0)", bench.fleet(0, 0));
        Due.same("sent of 0", bench.sent(), 0);
        int[][] none = {{0, 0}, {1, 0}, {-1, 0}, {0, 5}, {0, 2}, {3, 4}};
        for (int[] pair : none) {
            Due.no("hold of no pair", bench.hold(pair[0], pair[1], true));
            Due.no("hold of no pair, not", bench.hold(pair[0], pair[1], false));
        }
        Due.no("it is not held", bench.hold(0, 1, false));
        Due.yes("hold", bench.hold(0, 1, true));
        Due.no("it is held", bench.hold(0, 1, true));
        Due.yes("hold no more", bench.hold(0, 1, false));
        Due.no("it is not held again", bench.hold(0, 1, false));
        Due.same("best(-1, 0)", bench.best(-1, 0), -1);
        Due.same("best(4, 0)", bench.best(4, 0), -1);
        Due.same("best(0, -1)", bench.best(0, -1), -1);
        Due.same("best(0, 3)", bench.best(0, 3), -1);
        Due.same("best(0, 0)", bench.best(0, 0), 0);
    }

    private static void sums() {
        PatchBench bench = shifts();
        bench.fleet(0, 10);
        bench.fleet(1, 7);
        bench.fleet(2, 3);
        bench.fleet(3, 1000);
        Due.same("all as a whole", bench.sent(), 20 * 63);
        bench.hold(2, 3, true);
        Due.same("2 by a patch", bench.sent(), 17 * 63 + 3 * 8);
        bench.hold(0, 1, true);
        Due.same("a way that ends short", bench.sent(), 17 * 63 + 3 * 8);
        bench.hold(1, 2, true);
        Due.same("ways of several", bench.sent(), 10 * 24 + 7 * 16 + 3 * 8);
        bench.hold(0, 3, true);
        Due.same("a shorter way", bench.sent(), 10 * 8 + 7 * 16 + 3 * 8);
        bench.hold(1, 2, false);
        Due.same("one is held no more", bench.sent(), 10 * 8 + 7 * 63 + 3 * 8);
        Fill.version(bench, 3, 1, 2, 3);
        Due.same("a whole that is cheap", bench.sent(), 20 * 6);
    }

    private static void greatestVersion() {
        PatchBench bench = shifts();
        bench.fleet(0, 2);
        bench.fleet(3, 4);
        bench.hold(0, 3, true);
        Due.same("to 3", bench.sent(), 16);
        Fill.version(bench, 4, Fill.scattered(900, 50));
        Due.same("to 4", bench.sent(), 6 * 53);
        PatchBench one = new PatchBench();
        Fill.version(one, 2, BASE);
        Due.same("one version alone", one.sent(), 0);
        Due.yes("fleet(2, 9)", one.fleet(2, 9));
        Due.same("nothing to send", one.sent(), 0);
        Due.same("best of one version", one.best(3, 2), 0);
    }

    private static void bestSets() {
        PatchBench bench = shifts();
        bench.fleet(0, 10);
        bench.fleet(1, 20);
        bench.fleet(2, 5);
        bench.fleet(3, 1);
        bestIs(bench, 0, 35 * 63, 0);
        bestIs(bench, 1, 15 * 63 + 20 * 8, 1 << 5);
        bestIs(bench, 2, 5 * 63 + 30 * 8, 1 << 2 | 1 << 5);
        bestIs(bench, 3, 35 * 8, 1 << 2 | 1 << 5 | 1 << 7);
        Due.same("what is held stays", bench.sent(), 35 * 63);
        bench.hold(0, 1, true);
        bestIs(bench, 1, 15 * 63 + 20 * 8, 1 << 5);
        // No DEVICE gains by a third one: the fewest are taken.
        bench.fleet(2, 0);
        bestIs(bench, 3, 30 * 8, 1 << 2 | 1 << 5);
        // Alike: the pair of the least number first.
        bench.fleet(2, 20);
        bench.fleet(0, 20);
        bestIs(bench, 1, 40 * 63 + 20 * 8, 1 << 2);
        bestIs(bench, 2, 20 * 63 + 40 * 8, 1 << 2 | 1 << 5);
    }

    private static void bestIs(PatchBench bench, int k, int sent, int pairs) {
        Due.same("best(" + k + ", 0)", bench.best(k, 0), sent);
        Due.same("best(" + k + ", 1)", bench.best(k, 1), Integer.bitCount(pairs));
        Due.same("best(" + k + ", 2)", bench.best(k, 2), pairs);
    }
}
