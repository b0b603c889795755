/** Promises 1 to 5: a new object, feed, version, told, check. */
public final class VersionsTest {
    public static void main(String[] args) {
        newObject();
        tape();
        versions();
        checks();
        Due.end();
    }

    private static void newObject() {
        PatchBench bench = new PatchBench();
        for (int v = -1; v <= 5; v++) {
            Due.same("new told(" + v + ")", bench.told(v, -1), -1);
            Due.same("new told(" + v + ", 0)", bench.told(v, 0), -1);
            Due.same("new check(" + v + ")", bench.check(v), -1);
            Due.same("new cost(" + v + ")", bench.cost(v, v), -1);
            Due.no("new install(" + v + ")", bench.install(v));
        }
        Due.same("new melted", bench.melted(-1, 0), -1);
        Due.same("new melted(0, 0)", bench.melted(0, 0), -1);
        int[] device = {0, 1, 0, 0, 0, -1, -1, -1, -1, -1, 0};
        for (int what = 0; what < device.length; what++) {
            Due.same("new device(" + what + ")", bench.device(what), device[what]);
        }
        Due.same("new device(129)", bench.device(129), 0);
        Due.same("new sent()", bench.sent(), -1);
        Due.same("new best(0, 0)", bench.best(0, 0), -1);
    }

    private static void tape() {
        PatchBench bench = new PatchBench();
        Due.same("feed", bench.feed(0x01FF0380, 0x80000005, -1, 0x10203040, 0x7F000001), 20);
        Due.same("version(4, 20)", bench.version(4, 20), 20);
        int[] due = {1, 255, 3, 128, 128, 0, 0, 5, 255, 255, 255, 255, 16, 32, 48, 64, 127, 0, 0, 1};
        for (int i = 0; i < 20; i++) {
            Due.same("told(4, " + i + ")", bench.told(4, i), due[i]);
        }
        for (int many = 20; many <= 200; many += 20) {
            Due.same("feed to " + many, bench.feed(many, 0, 0, 0, many), many);
        }
        Due.same("feed beyond 200", bench.feed(1, 2, 3, 4, 5), -1);
        Due.same("feed beyond 200 again", bench.feed(1, 2, 3, 4, 5), -1);
        Due.same("version(0, 120)", bench.version(0, 120), 120);
        Due.same("told(0, 119)", bench.told(0, 119), 120);
        Due.same("told(0, 3)", bench.told(0, 3), 20);
        Due.same("the tape is empty", bench.version(0, 1), -1);
        Due.same("feed an empty tape", bench.feed(0, 0, 0, 0, 0), 20);
    }

    private static void versions() {
        PatchBench bench = new PatchBench();
        bench.feed(0x0A0B0C0D, 0, 0, 0, 0);
        Due.same("version(-1, 1)", bench.version(-1, 1), -1);
        Due.same("version(5, 1)", bench.version(5, 1), -1);
        Due.same("version(0, 0)", bench.version(0, 0), -1);
        Due.same("version(0, -1)", bench.version(0, -1), -1);
        Due.same("version(0, 21)", bench.version(0, 21), -1);
        Due.same("still none", bench.told(0, -1), -1);
        Due.same("version(0, 1)", bench.version(0, 1), 1);
        Due.same("told(0, -1)", bench.told(0, -1), 1);
        Due.same("told(0, 0)", bench.told(0, 0), 10);
        Due.same("told(0, 1)", bench.told(0, 1), -1);
        Due.same("told(0, -2)", bench.told(0, -2), -1);
        Due.same("told(0, least)", bench.told(0, Integer.MIN_VALUE), -1);
        Due.same("told(0, most)", bench.told(0, Integer.MAX_VALUE), -1);
        Due.same("told(1, -1)", bench.told(1, -1), -1);
        Due.same("told(-1, -1)", bench.told(-1, -1), -1);
        Due.same("told(5, -1)", bench.told(5, -1), -1);
        for (int i = 0; i < 7; i++) {
            bench.feed(i, i, i, i, i);
        }
        Due.same("version(0, 121)", bench.version(0, 121), -1);
        Due.same("a version that was refused is as it was", bench.told(0, -1), 1);
        Due.same("version(0, 120)", bench.version(0, 120), 120);
        bench.feed(0x0A0B0C0D, 0, 0, 0, 0);
        Due.same("in place of what was", bench.version(0, 2), 2);
        Due.same("its number", bench.told(0, -1), 2);
        Due.same("its byte", bench.told(0, 1), 11);
        Due.same("no byte behind", bench.told(0, 2), -1);
        Fill.version(bench, 1, 10, 11);
        Due.same("cost before it is replaced", bench.cost(0, 1), 3 + 3);
        Fill.version(bench, 1, 10, 11, 10, 11, 10, 11);
        Due.same("cost behind it", bench.cost(0, 1), 3 + 7);
        Fill.version(bench, 0, 10, 11, 10, 11, 10, 11);
        Due.same("cost behind the other", bench.cost(0, 1), 3 + 4);
    }

    private static void checks() {
        PatchBench bench = new PatchBench();
        Fill.version(bench, 0, 0);
        Due.same("check of one 0", bench.check(0), 32);
        Fill.version(bench, 0, 255);
        Due.same("check of one 255", bench.check(0), 31 + 256);
        Fill.version(bench, 0, 255, 0, 1);
        Due.same("check of three", bench.check(0), ((31 + 256) * 31 + 1) * 31L % 65521 + 2);
        Fill.version(bench, 1, 10, 50);
        Fill.version(bench, 2, 11, 19);
        Due.same("alike checks", bench.check(1), bench.check(2));
        Due.same("check(-1)", bench.check(-1), -1);
        Due.same("check(3)", bench.check(3), -1);
        Due.same("check(5)", bench.check(5), -1);
    }
}
