import java.util.function.IntBinaryOperator;

/** What the tests of edges share: far numbers, bytes, and STEPS as step() and melted() tell them. */
abstract class Edges {
    static final int LEAST = Integer.MIN_VALUE;
    static final int MOST = Integer.MAX_VALUE;
    static final int[] BASE = Fill.scattered(7, 120);
    /** Bytes that no run of BASE makes that is long enough to be of use, neither copied nor shifted. */
    static final int[] ALIEN = Fill.scattered(4242, 120);

    static int[] base(int from, int many) {
        return Fill.part(BASE, from, many);
    }

    static int[] alien(int from, int many) {
        return Fill.part(ALIEN, from, many);
    }

    static int[] copy(int n, int p) {
        return new int[] {0, n, p, 0};
    }

    static int[] shift(int n, int p, int d) {
        return new int[] {1, n, p, d};
    }

    static int[] add(int n, int p) {
        return new int[] {2, n, p, 0};
    }

    /** What is told of (k, what) must be these STEPS and no more. */
    static void stepsAre(IntBinaryOperator told, int[]... steps) {
        Due.same("how many steps", told.applyAsInt(-1, 0), steps.length);
        for (int k = 0; k < steps.length; k++) {
            for (int what = 0; what < 4; what++) {
                Due.same("step " + k + ", what " + what, told.applyAsInt(k, what), steps[k][what]);
            }
        }
        Due.same("behind the last step", told.applyAsInt(steps.length, 0), -1);
    }
}
