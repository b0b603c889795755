import java.util.Random;

/** Runs of all 512 calls, right and wrong ones, whose answers must be those of the plain model. */
public final class ModelTest {
    private static final int RUNS = 300;
    private static final int CALLS = 512;

    private final Random random;
    private final int run;
    private final PatchBench bench = new PatchBench();
    private final Model model = new Model();
    private final int[][] versions = new int[5][];
    private final int alphabet;
    private final int longest;
    private final int[] queue = new int[120];
    private int calls = 0;

    private ModelTest(int run) {
        this.run = run;
        this.random = new Random(run * 7919L + 1);
        this.alphabet = new int[] {2, 3, 8, 256}[random.nextInt(4)];
        this.longest = new int[] {6, 15, 40, 120}[random.nextInt(4)];
    }

    public static void main(String[] args) {
        for (int run = 0; run < RUNS && !Due.anyWrong(); run++) {
            new ModelTest(run).play();
        }
        Due.end();
    }

    private void play() {
        while (calls < CALLS && !Due.anyWrong()) {
            int kind = random.nextInt(100);
            if (calls < 30 && kind < 50 || kind < 4) {
                newVersion();
            } else if (kind < 35) {
                patches();
            } else if (kind < 80) {
                device();
            } else if (kind < 97) {
                fleet();
            } else {
                tapeAlone();
            }
        }
    }

    private void same(String call, long got, long want) {
        calls++;
        if (calls <= CALLS) {
            Due.same("run " + run + ", call " + calls + ": " + call, got, want);
        }
    }

    private void same(String call, boolean got, boolean want) {
        same(call, got ? 1 : 0, want ? 1 : 0);
    }

    /** Mostly one that is there, at times any. */
    private int someVersion() {
        int v = random.nextInt(7) - 1;
        for (int i = 0; i < 5 && random.nextInt(12) > 0 && (v < 0 || v > 4 || versions[v] == null); i++) {
            v = random.nextInt(5);
        }
        return v;
    }

    private int between(int low, int high) {
        return low + random.nextInt(high - low + 1);
    }

    private void newVersion() {
        int v = between(0, 4);
        int[] bytes = madeOf(versions[between(0, 4)]);
        for (int at = 0; at < bytes.length; at += 20) {
            int[] five = new int[5];
            for (int i = 0; i < 20; i++) {
                five[i / 4] |= (at + i < bytes.length ? bytes[at + i] : 0) << (24 - i % 4 * 8);
            }
            feed(five);
        }
        takeVersion(v, bytes.length);
    }

    private void takeVersion(int v, int n) {
        int due = model.version(v, n);
        same("version(" + v + ", " + n + ")", bench.version(v, n), due);
        if (due > 0) {
            versions[v] = new int[n];
            for (int i = 0; i < n; i++) {
                versions[v][i] = model.told(v, i);
            }
        }
    }

    private void feed(int[] n) {
        same("feed", bench.feed(n[0], n[1], n[2], n[3], n[4]), model.feed(n));
    }

    /** Pieces of another version, some of them shifted, with new bytes between. */
    private int[] madeOf(int[] other) {
        int many = between(1, longest);
        int at = 0;
        while (at < many) {
            int n = Math.min(many - at, between(1, 1 + many / 2));
            int from = other == null ? 0 : random.nextInt(other.length);
            int shift = random.nextInt(3) == 0 ? random.nextInt(alphabet) : 0;
            boolean isNew = other == null || random.nextInt(4) == 0;
            for (int i = 0; i < n; i++) {
                boolean told = isNew || from + i >= other.length;
                queue[at++] = told ? random.nextInt(alphabet) : (other[from + i] + shift) & 255;
            }
        }
        return java.util.Arrays.copyOf(queue, many);
    }

    private void tapeAlone() {
        feed(new int[] {random.nextInt(), random.nextInt(), random.nextInt(), random.nextInt(), random.nextInt()});
        takeVersion(between(-1, 5), between(-1, 125));
    }

    private void patches() {
        int a = someVersion();
        int b = someVersion();
        int c = someVersion();
        int k = between(-2, 8);
        int what = between(-1, 4);
        switch (random.nextInt(7)) {
            case 0 -> same("told(" + a + ", " + (k * 4) + ")", bench.told(a, k * 4), model.told(a, k * 4));
            case 1 -> same("check(" + a + ")", bench.check(a), model.check(a));
            case 2 -> same("cost(" + a + ", " + b + ")", bench.cost(a, b), model.cost(a, b));
            case 3 -> wholePatch(a, b);
            case 4 -> same("melt(" + a + ", " + b + ", " + c + ")", bench.melt(a, b, c), model.melt(a, b, c));
            case 5 -> same("melted(" + k + ", " + what + ")", bench.melted(k, what), model.melted(k, what));
            default -> same("room(" + a + ", " + b + ", " + what + ")", bench.room(a, b, what), model.room(a, b, what));
        }
    }

    private void wholePatch(int a, int b) {
        int steps = model.step(a, b, -1, 0);
        same("step(" + a + ", " + b + ", -1, 0)", bench.step(a, b, -1, 0), steps);
        for (int i = 0; i < 6; i++) {
            int k = between(-1, steps + 1);
            int what = between(-1, 4);
            same("step(" + a + ", " + b + ", " + k + ", " + what + ")", bench.step(a, b, k, what),
                model.step(a, b, k, what));
        }
    }

    private void device() {
        int a = someVersion();
        int b = someVersion();
        int n = random.nextInt(8) == 0 ? between(-5, 1005) : between(0, 12);
        int what = random.nextInt(3) == 0 ? between(-1, 131) : between(0, 6);
        switch (random.nextInt(15)) {
            case 0 -> same("install(" + a + ")", bench.install(a), model.install(a));
            case 1, 2 -> same("update(" + a + ", " + b + ")", bench.update(a, b), model.update(a, b));
            case 3 -> beginAnyway(a, b);
            case 4, 5, 6 -> same("write(" + n + ")", bench.write(n), model.write(n));
            case 7 -> same("cut()", bench.cut(), model.cut());
            case 8, 9 -> same("on()", bench.on(), model.on());
            default -> same("device(" + what + ")", bench.device(what), model.device(what));
        }
    }

    private void beginAnyway(int a, int b) {
        if (model.device(2) == 0) {
            same("install(" + a + ")", bench.install(a), model.install(a));
        }
        same("update(" + a + ", " + b + ")", bench.update(a, b), model.update(a, b));
    }

    private void fleet() {
        int a = random.nextInt(5) == 0 ? someVersion() : between(0, 3);
        int b = random.nextInt(5) == 0 ? someVersion() : between(Math.min(a, 4), 4);
        int many = random.nextInt(9) == 0 ? between(-3, 1003) : between(0, 3);
        boolean is = random.nextInt(3) > 0;
        int k = between(random.nextInt(6) == 0 ? -1 : 0, random.nextInt(6) == 0 ? 4 : 3);
        int what = between(random.nextInt(6) == 0 ? -1 : 0, random.nextInt(6) == 0 ? 3 : 2);
        switch (random.nextInt(8)) {
            case 0, 1 -> same("fleet(" + a + ", " + many + ")", bench.fleet(a, many), model.fleet(a, many));
            case 2, 3, 4 -> same("hold(" + a + ", " + b + ", " + is + ")", bench.hold(a, b, is), model.hold(a, b, is));
            case 5, 6 -> same("sent()", bench.sent(), model.sent());
            default -> same("best(" + k + ", " + what + ")", bench.best(k, what), model.best(k, what));
        }
    }
}
