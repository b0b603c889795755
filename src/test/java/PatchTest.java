/** Promises 6 and 7: cost and step. */
public final class PatchTest {
    private static final int[] BASE = Fill.scattered(7, 60);

    public static void main(String[] args) {
        wrongInputs();
        costsOfEachKind();
        whichOfSeveral();
        adds();
        shiftsGoRound();
        longest();
        Due.end();
    }

    private static void wrongInputs() {
        PatchBench bench = new PatchBench();
        Fill.version(bench, 0, 1, 2, 3);
        Fill.version(bench, 2, 1, 2, 3, 4);
        int[][] pairs = {{0, 1}, {1, 0}, {1, 1}, {-1, 0}, {0, -1}, {5, 0}, {0, 5}, {3, 4}};
        for (int[] pair : pairs) {
            Due.same("cost of no versions", bench.cost(pair[0], pair[1]), -1);
            Due.same("steps of no versions", bench.step(pair[0], pair[1], -1, 0), -1);
        }
        Due.same("steps", bench.step(0, 2, -1, 0), 1);
        Due.same("step -2", bench.step(0, 2, -2, 0), -1);
        Due.same("step 1", bench.step(0, 2, 1, 0), -1);
        Due.same("step far", bench.step(0, 2, Integer.MAX_VALUE, 0), -1);
        Due.same("what -1", bench.step(0, 2, 0, -1), -1);
        Due.same("what 4", bench.step(0, 2, 0, 4), -1);
    }

    private static void costsOfEachKind() {
        PatchBench bench = new PatchBench();
        Fill.version(bench, 0, BASE);
        Fill.version(bench, 1, Fill.part(BASE, 13, 20));
        patchIs(bench, 0, 1, 7, new int[][] {{0, 20, 13, 0}});
        Fill.version(bench, 1, Fill.shifted(Fill.part(BASE, 13, 20), 77));
        patchIs(bench, 0, 1, 8, new int[][] {{1, 20, 13, 77}});
        Fill.version(bench, 0, 9);
        Fill.version(bench, 1, 1, 200, 3);
        patchIs(bench, 0, 1, 7, new int[][] {{2, 3, 0, 0}});
        patchIs(bench, 1, 0, 5, new int[][] {{2, 1, 0, 0}});
        patchIs(bench, 0, 0, 5, new int[][] {{2, 1, 0, 0}});
    }

    private static void whichOfSeveral() {
        PatchBench bench = new PatchBench();
        Fill.version(bench, 0, 50, 7, 90);
        patchIs(bench, 0, 0, 7, new int[][] {{0, 3, 0, 0}});
        Fill.version(bench, 0, 50, 7, 90, 33);
        Fill.version(bench, 1, 51, 8, 91, 34);
        patchIs(bench, 0, 1, 8, new int[][] {{1, 4, 0, 1}});
        Fill.version(bench, 1, 51, 8, 91);
        patchIs(bench, 0, 1, 7, new int[][] {{2, 3, 0, 0}});
        int[] part = Fill.part(BASE, 0, 8);
        Fill.version(bench, 0, Fill.joined(new int[] {1}, part, new int[] {2}, part, new int[] {3}, part));
        Fill.version(bench, 1, part);
        patchIs(bench, 0, 1, 7, new int[][] {{0, 8, 1, 0}});
        Fill.version(bench, 1, Fill.shifted(part, 5));
        patchIs(bench, 0, 1, 8, new int[][] {{1, 8, 1, 5}});
        // Bytes 0 to 9 and 5 to 14 of the old ones overlap: the first COPY takes all that it can.
        int[] old = Fill.joined(Fill.part(BASE, 0, 10), new int[] {1}, Fill.part(BASE, 5, 10));
        Fill.version(bench, 0, old);
        Fill.version(bench, 1, Fill.part(BASE, 0, 15));
        patchIs(bench, 0, 1, 11, new int[][] {{0, 10, 0, 0}, {0, 5, 16, 0}});
    }

    private static void adds() {
        PatchBench bench = new PatchBench();
        Fill.version(bench, 0, 77);
        int[] told = new int[31];
        for (int i = 0; i < 31; i++) {
            told[i] = 100 + i * i % 97;
        }
        Fill.version(bench, 1, Fill.part(told, 0, 30));
        patchIs(bench, 0, 1, 34, new int[][] {{2, 30, 0, 0}});
        Fill.version(bench, 1, told);
        patchIs(bench, 0, 1, 36, new int[][] {{2, 30, 0, 0}, {2, 1, 30, 0}});
        Fill.version(bench, 0, BASE);
        Fill.version(bench, 1, Fill.joined(Fill.part(BASE, 40, 10), new int[] {5}, Fill.part(BASE, 0, 10)));
        patchIs(bench, 0, 1, 13, new int[][] {{0, 10, 40, 0}, {2, 1, 10, 0}, {0, 10, 0, 0}});
    }

    private static void shiftsGoRound() {
        PatchBench bench = new PatchBench();
        Fill.version(bench, 0, 250, 3, 255, 0, 128, 9);
        Fill.version(bench, 1, 4, 13, 9, 10, 138, 19);
        patchIs(bench, 0, 1, 8, new int[][] {{1, 6, 0, 10}});
        patchIs(bench, 1, 0, 8, new int[][] {{1, 6, 0, 246}});
    }

    private static void longest() {
        PatchBench bench = new PatchBench();
        int[] most = Fill.scattered(3, 120);
        Fill.version(bench, 3, most);
        Fill.version(bench, 4, Fill.shifted(most, 255));
        patchIs(bench, 3, 3, 7, new int[][] {{0, 120, 0, 0}});
        patchIs(bench, 3, 4, 8, new int[][] {{1, 120, 0, 255}});
        Fill.version(bench, 3, new int[120]);
        Fill.version(bench, 4, new int[119]);
        patchIs(bench, 3, 4, 7, new int[][] {{0, 119, 0, 0}});
        patchIs(bench, 4, 3, 9, new int[][] {{0, 119, 0, 0}, {2, 1, 119, 0}});
    }

    private static void patchIs(PatchBench bench, int a, int b, int cost, int[][] steps) {
        String name = "patch " + a + "-" + b;
        Due.same(name + " cost", bench.cost(a, b), cost);
        Due.same(name + " steps", bench.step(a, b, -1, 0), steps.length);
        for (int k = 0; k < steps.length; k++) {
            for (int what = 0; what < 4; what++) {
                Due.same(name + " step " + k + " what " + what, bench.step(a, b, k, what), steps[k][what]);
            }
        }
        Due.same(name + " behind the last step", bench.step(a, b, steps.length, 0), -1);
    }
}
