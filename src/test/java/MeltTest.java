/** Promises 8 and 9: melt and melted. */
public final class MeltTest {
    private static final int[] BASE = Fill.scattered(7, 60);

    public static void main(String[] args) {
        wrongInputs();
        shiftsAddUp();
        shiftsThatUndoEachOther();
        shiftedAdds();
        addsAreJoined();
        stretchesAreJoined();
        staysTillTheNext();
        Due.end();
    }

    private static void wrongInputs() {
        PatchBench bench = new PatchBench();
        Fill.version(bench, 0, BASE);
        Fill.version(bench, 1, Fill.shifted(BASE, 1));
        int[][] none = {{0, 1, 2}, {0, 2, 1}, {2, 0, 1}, {-1, 0, 1}, {0, -1, 1}, {0, 1, -1}, {5, 0, 1}, {0, 5, 1}, {0, 1, 5}};
        for (int[] abc : none) {
            Due.same("melt of no versions", bench.melt(abc[0], abc[1], abc[2]), -1);
            Due.same("melted before any", bench.melted(-1, 0), -1);
        }
        Due.same("melt(0, 1, 0)", bench.melt(0, 1, 0), 7);
        Due.same("melted(-2, 0)", bench.melted(-2, 0), -1);
        Due.same("melted(1, 0)", bench.melted(1, 0), -1);
        Due.same("melted(0, -1)", bench.melted(0, -1), -1);
        Due.same("melted(0, 4)", bench.melted(0, 4), -1);
    }

    private static void shiftsAddUp() {
        PatchBench bench = new PatchBench();
        Fill.version(bench, 0, BASE);
        Fill.version(bench, 1, Fill.shifted(Fill.part(BASE, 10, 40), 200));
        Fill.version(bench, 2, Fill.shifted(Fill.part(BASE, 15, 30), 44));
        // 100 behind 200 goes round to 44.
        meltIs(bench, 0, 1, 2, 8, new int[][] {{1, 30, 15, 44}});
        Due.same("the second patch shifts by 100", bench.step(1, 2, 0, 3), 100);
    }

    private static void shiftsThatUndoEachOther() {
        PatchBench bench = new PatchBench();
        Fill.version(bench, 0, BASE);
        Fill.version(bench, 1, Fill.shifted(BASE, 30));
        meltIs(bench, 0, 1, 0, 7, new int[][] {{0, 60, 0, 0}});
        meltIs(bench, 0, 0, 0, 7, new int[][] {{0, 60, 0, 0}});
    }

    private static void shiftedAdds() {
        PatchBench bench = new PatchBench();
        int[] told = {9, 111, 4};
        int[] middle = Fill.joined(Fill.part(BASE, 0, 20), told, Fill.part(BASE, 30, 20));
        Fill.version(bench, 0, BASE);
        Fill.version(bench, 3, middle);
        Fill.version(bench, 4, Fill.shifted(middle, 6));
        meltIs(bench, 0, 3, 4, 3 + 5 + 4 + 5, new int[][] {{1, 20, 0, 6}, {2, 3, 20, 0}, {1, 20, 30, 6}});
    }

    /** ADDs of both patches stand side by side: one ADD of 30, then one of what is left. */
    private static void addsAreJoined() {
        PatchBench bench = new PatchBench();
        int[] first = Fill.scattered(100, 20);
        int[] second = Fill.scattered(200, 13);
        Fill.version(bench, 0, Fill.part(BASE, 0, 20));
        Fill.version(bench, 1, Fill.joined(Fill.part(BASE, 0, 20), first));
        Fill.version(bench, 2, Fill.joined(Fill.part(BASE, 0, 20), first, second));
        meltIs(bench, 0, 1, 2, 3 + 4 + 31 + 4, new int[][] {{0, 20, 0, 0}, {2, 30, 20, 0}, {2, 3, 50, 0}});
    }

    /** Two COPYs of the second patch that meet in the first version's bytes are one again. */
    private static void stretchesAreJoined() {
        PatchBench bench = new PatchBench();
        Fill.version(bench, 0, BASE);
        Fill.version(bench, 1, Fill.joined(Fill.part(BASE, 30, 30), Fill.part(BASE, 0, 30)));
        Fill.version(bench, 2, BASE);
        meltIs(bench, 0, 0, 1, 11, new int[][] {{0, 30, 30, 0}, {0, 30, 0, 0}});
        Due.same("steps of the second patch", bench.step(1, 2, -1, 0), 2);
        meltIs(bench, 0, 1, 2, 7, new int[][] {{0, 60, 0, 0}});
        Fill.version(bench, 2, Fill.joined(Fill.part(BASE, 0, 30), Fill.shifted(Fill.part(BASE, 30, 30), 1)));
        meltIs(bench, 0, 1, 2, 12, new int[][] {{0, 30, 0, 0}, {1, 30, 30, 1}});
    }

    private static void staysTillTheNext() {
        PatchBench bench = new PatchBench();
        Fill.version(bench, 0, BASE);
        Fill.version(bench, 1, Fill.shifted(BASE, 3));
        Due.same("melt(0, 0, 1)", bench.melt(0, 0, 1), 8);
        Due.same("melt of none", bench.melt(0, 0, 2), -1);
        Fill.version(bench, 0, 1, 2, 3);
        Fill.version(bench, 1, 4);
        bench.cost(0, 1);
        bench.room(0, 1, 2);
        Due.same("it is still told", bench.melted(-1, 7), 1);
        Due.same("its n", bench.melted(0, 1), 60);
        Due.same("its d", bench.melted(0, 3), 3);
    }

    private static void meltIs(PatchBench bench, int a, int b, int c, int cost, int[][] steps) {
        String name = "melt " + a + "-" + b + "-" + c;
        Due.same(name, bench.melt(a, b, c), cost);
        Due.same(name + " steps", bench.melted(-1, 0), steps.length);
        for (int k = 0; k < steps.length; k++) {
            for (int what = 0; what < 4; what++) {
                Due.same(name + " step " + k + " what " + what, bench.melted(k, what), steps[k][what]);
            }
        }
        Due.same(name + " behind the last step", bench.melted(steps.length, 0), -1);
    }
}
