/** Promises 8 and 9 and what MELTED is, at their edges, a method for each of the document's sentences. */
public final class MeltEdgesTest extends Edges {
    public static void main(String[] args) {
        noSuchVersions();
        nothingMeltedYet();
        refusedOneIsNotTheLatest();
        latestOne();
        noSuchSteps();
        noSuchWhat();
        addedOneIsAdded();
        copiedOneOfAnAddedOneIsAdded();
        shiftedOneOfAnAddedOneIsAdded();
        shiftedByBoth();
        shiftedByNoneInAll();
        oneByteAlone();
        oneBehindTheOther();
        notOneBehindTheOther();
        shiftedAlike();
        notShiftedAlike();
        thirtyAddedAtMost();
        addedOnesOfBothPatches();
        addedOnesOnBothSides();
        longestOnes();
        isNotMadeCheaper();
        Due.end();
    }

    private static PatchBench benchOf(int[] a, int[] b, int[] c) {
        PatchBench bench = new PatchBench();
        Fill.version(bench, 1, a);
        Fill.version(bench, 0, b);
        Fill.version(bench, 4, c);
        return bench;
    }

    private static void meltIs(int[] a, int[] b, int[] c, int cost, int[]... steps) {
        PatchBench bench = benchOf(a, b, c);
        Due.same("melt(1, 0, 4)", bench.melt(1, 0, 4), cost);
        stepsAre(bench::melted, steps);
    }

    private static void noSuchVersions() {
        Due.about("8: NONE: no such VERSIONS");
        PatchBench bench = benchOf(base(0, 20), base(5, 15), base(5, 10));
        for (int v : new int[] {LEAST, -2, -1, 2, 3, 5, 6, MOST}) {
            Due.same("melt(" + v + ", 0, 1)", bench.melt(v, 0, 1), -1);
            Due.same("melt(0, " + v + ", 1)", bench.melt(0, v, 1), -1);
            Due.same("melt(0, 1, " + v + ")", bench.melt(0, 1, v), -1);
            Due.same("melt(" + v + ", " + v + ", " + v + ")", bench.melt(v, v, v), -1);
        }
        Due.same("melt(1, 0, 4)", bench.melt(1, 0, 4), 7);
    }

    private static void nothingMeltedYet() {
        Due.about("9: Of the latest melt() that wasn't NONE: there is none");
        PatchBench bench = benchOf(base(0, 20), base(5, 15), base(5, 10));
        bench.cost(1, 0);
        bench.melt(1, 0, 3);
        for (int what = -1; what <= 4; what++) {
            for (int k = -2; k <= 1; k++) {
                Due.same("melted(" + k + ", " + what + ")", bench.melted(k, what), -1);
            }
        }
    }

    private static void refusedOneIsNotTheLatest() {
        Due.about("9: the latest melt() that wasn't NONE");
        PatchBench bench = benchOf(base(0, 20), base(5, 15), Fill.shifted(base(5, 10), 8));
        Due.same("melt(1, 0, 4)", bench.melt(1, 0, 4), 8);
        for (int[] none : new int[][] {{3, 0, 4}, {1, 3, 4}, {1, 0, 3}, {-1, 0, 0}, {0, 0, 5}}) {
            Due.same("melt of none", bench.melt(none[0], none[1], none[2]), -1);
            Due.same("steps", bench.melted(-1, 0), 1);
            Due.same("n", bench.melted(0, 1), 10);
            Due.same("p", bench.melted(0, 2), 5);
            Due.same("d", bench.melted(0, 3), 8);
        }
    }

    private static void latestOne() {
        Due.about("9: Of the latest melt()");
        PatchBench bench = benchOf(base(0, 60), Fill.joined(base(30, 30), base(0, 30)), base(0, 9));
        bench.melt(1, 0, 0);
        Due.same("steps of the first", bench.melted(-1, 0), 2);
        bench.melt(1, 0, 4);
        Due.same("steps of the second", bench.melted(-1, 0), 1);
        Due.same("its n", bench.melted(0, 1), 9);
        Due.same("no second step", bench.melted(1, 0), -1);
        Fill.version(bench, 4, alien(0, 50));
        Due.same("its n, when c is another one", bench.melted(0, 1), 9);
    }

    private static void noSuchSteps() {
        Due.about("9: like step(): NONE: none such STEP");
        PatchBench bench = benchOf(base(0, 60), Fill.joined(base(30, 30), base(0, 30)), base(0, 9));
        Due.same("melt(1, 1, 0)", bench.melt(1, 1, 0), 11);
        for (int what = 0; what < 4; what++) {
            Due.yes("step 1, what " + what, bench.melted(1, what) >= 0);
            for (int k : new int[] {LEAST, -3, -2, 2, 3, 119, 120, 121, MOST}) {
                Due.same("melted(" + k + ", " + what + ")", bench.melted(k, what), -1);
            }
        }
    }

    private static void noSuchWhat() {
        Due.about("9: like step(): NONE: none such what (0 to 3)");
        PatchBench bench = benchOf(base(0, 60), base(30, 30), base(30, 9));
        bench.melt(1, 0, 4);
        for (int what : new int[] {LEAST, -2, -1, 4, 5, MOST}) {
            Due.same("melted(0, " + what + ")", bench.melted(0, what), -1);
        }
    }

    private static void addedOneIsAdded() {
        Due.about("MELTED: an added one is added");
        // The bytes that the second PATCH adds are bytes of a; that is not looked for.
        meltIs(base(0, 40), base(0, 20), base(0, 40), 3 + 4 + 21, copy(20, 0), add(20, 20));
        meltIs(base(0, 40), alien(0, 20), base(5, 1), 3 + 2, add(1, 0));
    }

    private static void copiedOneOfAnAddedOneIsAdded() {
        Due.about("MELTED: a copied one is what its byte of b is: an added one, added");
        int[] b = Fill.joined(base(0, 20), alien(0, 8));
        meltIs(base(0, 20), b, Fill.joined(alien(0, 8), base(0, 20)), 3 + 9 + 4, add(8, 0), copy(20, 0));
    }

    private static void shiftedOneOfAnAddedOneIsAdded() {
        Due.about("MELTED: an added one with what it's shifted by, added");
        int[] b = Fill.joined(base(0, 20), new int[] {250, 3, 255});
        meltIs(base(0, 20), b, Fill.shifted(b, 6), 3 + 5 + 4, shift(20, 0, 6), add(3, 20));
    }

    private static void shiftedByBoth() {
        Due.about("MELTED: the byte of a, shifted by both (modulo 256)");
        int[][] sums = {{1, 1, 2}, {1, 254, 255}, {255, 255, 254}, {255, 2, 1}, {128, 129, 1}, {200, 100, 44}};
        for (int[] sum : sums) {
            meltIs(BASE, Fill.shifted(base(10, 90), sum[0]), Fill.shifted(base(30, 40), sum[0] + sum[1]), 8,
                shift(40, 30, sum[2]));
        }
        meltIs(BASE, base(10, 90), Fill.shifted(base(30, 40), 77), 8, shift(40, 30, 77));
        meltIs(BASE, Fill.shifted(base(10, 90), 77), Fill.shifted(base(30, 40), 77), 8, shift(40, 30, 77));
    }

    private static void shiftedByNoneInAll() {
        Due.about("MELTED: one COPY (shifted by 0)");
        for (int d : new int[] {1, 2, 127, 128, 129, 254, 255}) {
            meltIs(BASE, Fill.shifted(base(10, 90), d), base(30, 40), 7, copy(40, 30));
        }
        meltIs(BASE, base(10, 90), base(30, 40), 7, copy(40, 30));
    }

    private static void oneByteAlone() {
        Due.about("COPY n, SHIFT n, ADD n: 1 at least");
        int[] b = Fill.joined(base(0, 10), alien(0, 10));
        int[] tail = Fill.joined(base(9, 1), alien(0, 10));
        meltIs(base(0, 20), b, tail, 3 + 4 + 11, copy(1, 9), add(10, 1));
        meltIs(base(0, 20), b, Fill.shifted(tail, 5), 3 + 5 + 11, shift(1, 9, 5), add(10, 1));
        int[] head = Fill.joined(alien(0, 10), base(0, 10));
        meltIs(base(0, 20), head, Fill.part(head, 9, 11), 3 + 2 + 4, add(1, 0), copy(10, 0));
        meltIs(base(0, 1), base(0, 1), base(0, 1), 5, add(1, 0));
    }

    private static void oneBehindTheOther() {
        Due.about("MELTED: as many as are bytes of a one behind the other are one COPY");
        int[] b = Fill.joined(base(30, 30), base(0, 30));
        meltIs(base(0, 60), b, base(0, 60), 7, copy(60, 0));
        meltIs(base(0, 60), b, base(25, 10), 7, copy(10, 25));
    }

    private static void notOneBehindTheOther() {
        Due.about("MELTED: one behind the other: not over a gap, not backwards, not round from the last to the first");
        int[] gap = Fill.joined(base(0, 10), base(11, 10));
        meltIs(base(0, 21), gap, gap, 11, copy(10, 0), copy(10, 11));
        int[] back = Fill.joined(base(0, 10), base(9, 10));
        meltIs(base(0, 21), back, back, 11, copy(10, 0), copy(10, 9));
        int[] round = Fill.joined(base(10, 10), base(0, 10));
        meltIs(base(0, 20), round, round, 11, copy(10, 10), copy(10, 0));
        meltIs(BASE, Fill.joined(base(60, 60), base(0, 60)), Fill.joined(base(60, 60), base(0, 60)), 11, copy(60, 60),
            copy(60, 0));
    }

    private static void shiftedAlike() {
        Due.about("MELTED: shifted alike, are one SHIFT");
        int[] b = Fill.joined(base(30, 30), Fill.shifted(base(0, 30), 250));
        // The first thirty by 250 and then by none, the others by none and then by 250.
        int[] c = Fill.joined(Fill.shifted(base(0, 30), 250), Fill.shifted(base(30, 30), 250));
        meltIs(base(0, 60), b, c, 8, shift(60, 0, 250));
    }

    private static void notShiftedAlike() {
        Due.about("MELTED: shifted alike: others are another STEP");
        int[] b = Fill.joined(base(0, 10), Fill.shifted(base(10, 10), 1));
        meltIs(base(0, 20), b, b, 12, copy(10, 0), shift(10, 10, 1));
        meltIs(base(0, 20), b, Fill.shifted(b, 255), 12, shift(10, 0, 255), copy(10, 10));
        meltIs(base(0, 20), b, Fill.shifted(b, 100), 13, shift(10, 0, 100), shift(10, 10, 101));
    }

    private static void thirtyAddedAtMost() {
        Due.about("MELTED: as many added ones as there are (30 at most), one ADD");
        int[] a = {ALIEN[0] ^ 128};
        for (int n : new int[] {3, 29, 30}) {
            meltIs(a, alien(0, n), alien(0, n), 3 + 1 + n, add(n, 0));
        }
        meltIs(a, alien(0, 31), alien(0, 31), 3 + 31 + 2, add(30, 0), add(1, 30));
        meltIs(a, alien(0, 59), alien(0, 59), 3 + 31 + 30, add(30, 0), add(29, 30));
        meltIs(a, alien(0, 60), alien(0, 60), 3 + 62, add(30, 0), add(30, 30));
        meltIs(a, alien(0, 61), alien(0, 61), 3 + 62 + 2, add(30, 0), add(30, 30), add(1, 60));
        meltIs(a, ALIEN, ALIEN, 3 + 124, add(30, 0), add(30, 30), add(30, 60), add(30, 90));
    }

    private static void addedOnesOfBothPatches() {
        Due.about("MELTED: as many added ones as there are: those of both PATCHES");
        int[] b = Fill.joined(base(0, 20), alien(0, 15));
        int[] c = Fill.joined(base(0, 20), alien(0, 15), alien(40, 14));
        meltIs(base(0, 20), b, c, 3 + 4 + 30, copy(20, 0), add(29, 20));
        meltIs(base(0, 20), b, Fill.joined(c, alien(54, 2)), 3 + 4 + 31 + 2, copy(20, 0), add(30, 20), add(1, 50));
    }

    private static void addedOnesOnBothSides() {
        Due.about("MELTED: from the first byte on: an ADD ends at a byte of a, and counts anew behind it");
        int[] b = Fill.joined(alien(0, 20), base(0, 20), alien(20, 20));
        meltIs(base(0, 20), b, b, 3 + 21 + 4 + 21, add(20, 0), copy(20, 0), add(20, 40));
    }

    private static void longestOnes() {
        Due.about("COPY n (1 to 120), SHIFT likewise");
        meltIs(BASE, Fill.shifted(BASE, 9), BASE, 7, copy(120, 0));
        meltIs(BASE, Fill.shifted(BASE, 9), Fill.shifted(BASE, 10), 8, shift(120, 0, 10));
    }

    private static void isNotMadeCheaper() {
        Due.about("8: The cost of the PATCHES MELTED, not of the PATCH from a to c");
        PatchBench bench = benchOf(base(0, 40), base(0, 20), base(0, 40));
        Due.same("cost(1, 4)", bench.cost(1, 4), 7);
        Due.same("melt(1, 0, 4)", bench.melt(1, 0, 4), 28);
        Due.same("melt(1, 1, 4)", bench.melt(1, 1, 4), 7);
        Due.same("melt(1, 4, 4)", bench.melt(1, 4, 4), 7);
    }
}
