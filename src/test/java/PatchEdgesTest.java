/** Promises 6 and 7 and what a PATCH is, at their edges, a method for each of the document's sentences. */
public final class PatchEdgesTest extends Edges {
    public static void main(String[] args) {
        noSuchVersions();
        noSuchSteps();
        noSuchWhat();
        howManySteps();
        shortestCopy();
        longestCopy();
        shortestShift();
        longestShift();
        leastAndGreatestShift();
        shiftsGoRound();
        shortestAdd();
        addsOfThirtyAtMost();
        placesOfAdds();
        costsOfAllTold();
        copyOfTheGreatestN();
        copyOfTheLeastP();
        copyAheadOfALongerShift();
        copyAheadOfAnAdd();
        shiftOfTheGreatestN();
        shiftOfTheLeastP();
        shiftAheadOfAnAdd();
        addOfTheGreatestN();
        secondStep();
        endsOfTheOldBytes();
        Due.end();
    }

    private static PatchBench benchOf(int[] old, int[] fresh) {
        PatchBench bench = new PatchBench();
        Fill.version(bench, 0, old);
        Fill.version(bench, 4, fresh);
        return bench;
    }

    private static void patchIs(int[] old, int[] fresh, int cost, int[]... steps) {
        PatchBench bench = benchOf(old, fresh);
        Due.same("cost", bench.cost(0, 4), cost);
        stepsAre((k, what) -> bench.step(0, 4, k, what), steps);
    }

    private static void noSuchVersions() {
        Due.about("6, 7: NONE: no such VERSIONS");
        PatchBench bench = benchOf(base(0, 20), base(5, 10));
        for (int v : new int[] {LEAST, -2, -1, 1, 2, 3, 5, 6, MOST}) {
            for (int w : new int[] {0, 4, v}) {
                Due.same("cost(" + v + ", " + w + ")", bench.cost(v, w), -1);
                Due.same("cost(" + w + ", " + v + ")", bench.cost(w, v), -1);
                Due.same("step(" + v + ", " + w + ", -1, 0)", bench.step(v, w, -1, 0), -1);
                Due.same("step(" + w + ", " + v + ", -1, 0)", bench.step(w, v, -1, 0), -1);
                Due.same("step(" + v + ", " + w + ", 0, 1)", bench.step(v, w, 0, 1), -1);
                Due.same("step(" + w + ", " + v + ", 0, 1)", bench.step(w, v, 0, 1), -1);
            }
        }
        Due.same("cost(0, 4)", bench.cost(0, 4), 7);
    }

    private static void noSuchSteps() {
        Due.about("7: NONE: none such STEP");
        PatchBench bench = benchOf(base(0, 40), Fill.joined(base(20, 20), alien(0, 3), base(0, 20)));
        Due.same("steps", bench.step(0, 4, -1, 0), 3);
        for (int what = 0; what < 4; what++) {
            Due.yes("step 2, what " + what, bench.step(0, 4, 2, what) >= 0);
            for (int k : new int[] {LEAST, -3, -2, 3, 4, 119, 120, 121, MOST}) {
                Due.same("step(0, 4, " + k + ", " + what + ")", bench.step(0, 4, k, what), -1);
            }
        }
    }

    private static void noSuchWhat() {
        Due.about("7: NONE: none such what (0 to 3)");
        PatchBench bench = benchOf(base(0, 40), Fill.joined(base(20, 20), alien(0, 3)));
        for (int what : new int[] {LEAST, -2, -1, 4, 5, MOST}) {
            Due.same("step(0, 4, 0, " + what + ")", bench.step(0, 4, 0, what), -1);
            Due.same("step(0, 4, 1, " + what + ")", bench.step(0, 4, 1, what), -1);
        }
    }

    private static void howManySteps() {
        Due.about("7: how many STEPS (k NONE)");
        Due.same("one", benchOf(base(0, 9), base(0, 9)).step(0, 4, -1, 0), 1);
        Due.same("four ADDs", benchOf(new int[] {1}, alien(0, 120)).step(0, 4, -1, 0), 4);
        int[] turned = new int[120];
        for (int i = 0; i < 120; i++) {
            turned[i] = BASE[(i / 4) % 2 == 0 ? i + 4 : i - 4];
        }
        // Fours change places: a COPY for each of the thirty, as no ADD is cheaper.
        Due.same("thirty COPYs", benchOf(BASE, turned).step(0, 4, -1, 0), 30);
        Due.same("the last one's n", benchOf(BASE, turned).step(0, 4, 29, 1), 4);
    }

    private static void shortestCopy() {
        Due.about("COPY; cost 4: of two bytes an ADD costs less, of three it costs the same");
        patchIs(new int[] {50}, new int[] {50}, 5, add(1, 0));
        patchIs(new int[] {50, 7}, new int[] {50, 7}, 6, add(2, 0));
        patchIs(new int[] {50, 7, 90}, new int[] {50, 7, 90}, 7, copy(3, 0));
    }

    private static void longestCopy() {
        Due.about("COPY n (1 to 120)");
        patchIs(BASE, BASE, 7, copy(120, 0));
        patchIs(BASE, base(1, 119), 7, copy(119, 1));
        patchIs(base(1, 119), BASE, 9, add(1, 0), copy(119, 0));
    }

    private static void shortestShift() {
        Due.about("SHIFT; cost 5: of three bytes an ADD costs less, of four it costs the same");
        patchIs(new int[] {50, 7, 90}, new int[] {51, 8, 91}, 7, add(3, 0));
        patchIs(new int[] {50, 7, 90, 33}, new int[] {51, 8, 91, 34}, 8, shift(4, 0, 1));
    }

    private static void longestShift() {
        Due.about("SHIFT n from p: the same (1 to 120)");
        patchIs(BASE, Fill.shifted(BASE, 100), 8, shift(120, 0, 100));
        patchIs(BASE, Fill.shifted(base(1, 119), 100), 8, shift(119, 1, 100));
    }

    private static void leastAndGreatestShift() {
        Due.about("SHIFT by d (1 to 255)");
        patchIs(BASE, Fill.shifted(base(30, 50), 1), 8, shift(50, 30, 1));
        patchIs(BASE, Fill.shifted(base(30, 50), 255), 8, shift(50, 30, 255));
        patchIs(BASE, Fill.shifted(base(30, 50), 128), 8, shift(50, 30, 128));
        // By 256 is by none at all: a COPY.
        patchIs(BASE, Fill.shifted(base(30, 50), 256), 7, copy(50, 30));
    }

    private static void shiftsGoRound() {
        Due.about("SHIFT: d added to each (modulo 256)");
        int[] old = {255, 0, 254, 1, 128};
        patchIs(old, new int[] {0, 1, 255, 2, 129}, 8, shift(5, 0, 1));
        patchIs(old, new int[] {254, 255, 253, 0, 127}, 8, shift(5, 0, 255));
        patchIs(old, new int[] {127, 128, 126, 129, 0}, 8, shift(5, 0, 128));
    }

    private static void shortestAdd() {
        Due.about("ADD n (1 to 30); cost 1 and n");
        patchIs(base(0, 30), alien(0, 1), 5, add(1, 0));
        patchIs(base(0, 30), Fill.joined(base(0, 30), alien(0, 1)), 9, copy(30, 0), add(1, 30));
    }

    private static void addsOfThirtyAtMost() {
        Due.about("ADD n (1 to 30)");
        int[] old = {ALIEN[0] ^ 128};
        patchIs(old, alien(0, 29), 3 + 30, add(29, 0));
        patchIs(old, alien(0, 30), 3 + 31, add(30, 0));
        patchIs(old, alien(0, 31), 3 + 31 + 2, add(30, 0), add(1, 30));
        patchIs(old, alien(0, 60), 3 + 62, add(30, 0), add(30, 30));
        patchIs(old, alien(0, 61), 3 + 62 + 2, add(30, 0), add(30, 30), add(1, 60));
        patchIs(old, alien(0, 120), 3 + 124, add(30, 0), add(30, 30), add(30, 60), add(30, 90));
    }

    private static void placesOfAdds() {
        Due.about("7: p (of an ADD where its first byte is in b), d (else 0)");
        patchIs(base(0, 40), Fill.joined(alien(0, 2), base(10, 20), alien(2, 3), Fill.shifted(base(0, 20), 9)),
            3 + 3 + 4 + 4 + 5, add(2, 0), copy(20, 10), add(3, 22), shift(20, 0, 9));
    }

    private static void costsOfAllTold() {
        Due.about("Its cost: 3 and those of its STEPS");
        PatchBench bench = benchOf(base(0, 60), Fill.joined(alien(0, 33), Fill.shifted(base(0, 30), 3), base(30, 30)));
        Due.same("cost(0, 4)", bench.cost(0, 4), 3 + 31 + 4 + 5 + 4);
        Due.same("cost(0, 0)", bench.cost(0, 0), 7);
        Due.same("cost(4, 4)", bench.cost(4, 4), 7);
        Due.same("the dearest there is", benchOf(new int[] {9}, alien(0, 120)).cost(0, 4), 127);
        Due.same("the cheapest there is", benchOf(new int[] {9}, new int[] {9}).cost(0, 4), 5);
    }

    private static void copyOfTheGreatestN() {
        Due.about("a COPY of the greatest n");
        // Bytes 0 to 5 stand first, bytes 0 to 9 behind them: the longer one, if its p is greater too.
        int[] old = Fill.joined(base(0, 6), alien(0, 1), base(0, 10), alien(1, 1), base(6, 10));
        patchIs(old, base(0, 16), 11, copy(10, 7), copy(6, 22));
    }

    private static void copyOfTheLeastP() {
        Due.about("a COPY of the greatest n, of these of the least p");
        int[] old = Fill.joined(alien(0, 2), base(0, 8), alien(2, 1), base(0, 8), alien(3, 1), base(0, 8));
        patchIs(old, base(0, 8), 7, copy(8, 2));
        int[] same = new int[40];
        patchIs(same, new int[20], 7, copy(20, 0));
        patchIs(new int[20], same, 11, copy(20, 0), copy(20, 0));
    }

    private static void copyAheadOfALongerShift() {
        Due.about("a COPY; a SHIFT: COPY 6 and SHIFT 6 cost what SHIFT 7 and COPY 5 do");
        int[] old = Fill.joined(base(0, 6), alien(0, 1), Fill.shifted(base(6, 6), 40), alien(1, 1),
            Fill.shifted(base(0, 7), 90), alien(2, 1), base(7, 5));
        patchIs(old, base(0, 12), 12, copy(6, 0), shift(6, 7, 216));
        patchIs(old, Fill.joined(base(0, 6), alien(50, 6)), 3 + 4 + 7, copy(6, 0), add(6, 6));
    }

    private static void copyAheadOfAnAdd() {
        Due.about("a COPY; an ADD: COPY 4 and ADD 1 cost what ADD 5 does");
        patchIs(base(0, 4), Fill.joined(base(0, 4), alien(0, 1)), 9, copy(4, 0), add(1, 4));
    }

    private static void shiftOfTheGreatestN() {
        Due.about("a SHIFT likewise: of the greatest n");
        int[] old = Fill.joined(base(0, 6), alien(0, 1), base(0, 10), alien(1, 1), base(6, 10));
        patchIs(old, Fill.shifted(base(0, 16), 33), 13, shift(10, 7, 33), shift(6, 22, 33));
    }

    private static void shiftOfTheLeastP() {
        Due.about("a SHIFT likewise: of these of the least p");
        int[] old = Fill.joined(alien(0, 2), base(0, 8), alien(2, 1), Fill.shifted(base(0, 8), 20), alien(3, 1),
            Fill.shifted(base(0, 8), 250));
        patchIs(old, Fill.shifted(base(0, 8), 5), 8, shift(8, 2, 5));
        patchIs(old, Fill.shifted(base(0, 8), 19), 8, shift(8, 2, 19));
        patchIs(new int[30], Fill.shifted(new int[20], 200), 8, shift(20, 0, 200));
    }

    private static void shiftAheadOfAnAdd() {
        Due.about("a SHIFT; an ADD: SHIFT 5 and ADD 1 cost what ADD 6 does");
        patchIs(base(0, 5), Fill.joined(Fill.shifted(base(0, 5), 9), alien(0, 1)), 10, shift(5, 0, 9), add(1, 5));
    }

    private static void addOfTheGreatestN() {
        Due.about("an ADD of the greatest n");
        // ADD 1 and COPY 4, ADD 1 and SHIFT 5: the same cost as one ADD of all.
        patchIs(base(0, 4), Fill.joined(alien(0, 1), base(0, 4)), 9, add(5, 0));
        patchIs(base(0, 5), Fill.joined(alien(0, 1), Fill.shifted(base(0, 5), 9)), 10, add(6, 0));
        // ADD 30 and ADD 2 cost what ADD 29 and COPY 3 do.
        patchIs(base(0, 3), Fill.joined(alien(0, 29), base(0, 3)), 3 + 31 + 3, add(30, 0), add(2, 30));
        // A COPY of five costs less than five more bytes of an ADD.
        patchIs(base(0, 5), Fill.joined(alien(0, 1), base(0, 5)), 9, add(1, 0), copy(5, 0));
    }

    private static void secondStep() {
        Due.about("then the second STEP, and so on");
        // Behind ADD 30: COPY 3 costs what ADD 3 does.
        patchIs(base(0, 3), Fill.joined(alien(0, 30), base(0, 3)), 3 + 31 + 4, add(30, 0), copy(3, 0));
        // Behind a COPY: of two COPYs alike the one of the least p.
        int[] old = Fill.joined(base(0, 8), alien(0, 1), base(20, 8), alien(1, 1), base(20, 8));
        patchIs(old, Fill.joined(base(0, 8), base(20, 8), base(20, 8)), 15, copy(8, 0), copy(8, 9), copy(8, 9));
    }

    private static void endsOfTheOldBytes() {
        Due.about("COPY n from p: the n old bytes from p on: none behind the last one, none round to the first");
        patchIs(base(0, 10), Fill.joined(base(4, 6), base(0, 4)), 11, copy(6, 4), copy(4, 0));
        patchIs(base(0, 10), Fill.joined(base(6, 4), base(0, 6)), 11, copy(4, 6), copy(6, 0));
        patchIs(Fill.part(new int[20], 0, 19), new int[20], 3 + 4 + 2, copy(19, 0), add(1, 19));
    }
}
