/** Promises 10 to 16: room, install, update, write, cut, on, device. */
public final class DeviceTest {
    private static final int[] BASE = Fill.scattered(7, 60);

    public static void main(String[] args) {
        rooms();
        installs();
        refusals();
        writesUp();
        writesDown();
        cutsEverywhere();
        alikeChecksAreNotTold();
        versionsReplacedMeanwhile();
        Due.end();
    }

    private static void rooms() {
        PatchBench bench = new PatchBench();
        Fill.version(bench, 0, BASE);
        Fill.version(bench, 1, Fill.joined(new int[] {1, 2}, BASE));
        Fill.version(bench, 2, Fill.part(BASE, 20, 40));
        Fill.version(bench, 3, Fill.shifted(BASE, 9));
        roomIs(bench, 0, 0, 0, 0);
        roomIs(bench, 0, 1, 60, 0);
        roomIs(bench, 1, 0, 0, 60);
        // All 40 count going down, those behind the new end too.
        roomIs(bench, 0, 2, 0, 40);
        roomIs(bench, 0, 3, 60, 60);
        Due.same("room(0, 1, -1)", bench.room(0, 1, -1), -1);
        Due.same("room(0, 1, 3)", bench.room(0, 1, 3), -1);
        int[][] none = {{0, 4}, {4, 0}, {-1, 0}, {0, -1}, {5, 0}, {0, 5}};
        for (int[] pair : none) {
            Due.same("room of no versions", bench.room(pair[0], pair[1], 0), -1);
        }
        // Made of twice: a byte is kept once.
        int[] part = Fill.part(BASE, 0, 10);
        Fill.version(bench, 4, Fill.joined(part, part, part));
        Fill.version(bench, 0, part);
        roomIs(bench, 0, 4, 10, 0);
        // One byte of two uses above and below its place is kept for both ways.
        Fill.version(bench, 0, Fill.joined(Fill.scattered(50, 10), part));
        Fill.version(bench, 4, Fill.joined(part, Fill.scattered(90, 10), part));
        roomIs(bench, 0, 4, 10, 10);
    }

    private static void roomIs(PatchBench bench, int a, int b, int up, int down) {
        Due.same("room up " + a + "-" + b, bench.room(a, b, 0), up);
        Due.same("room down " + a + "-" + b, bench.room(a, b, 1), down);
        Due.same("room better " + a + "-" + b, bench.room(a, b, 2), Math.min(up, down));
    }

    private static void installs() {
        PatchBench bench = new PatchBench();
        Fill.version(bench, 0, BASE);
        Fill.version(bench, 1, 4, 5, 6);
        Due.no("install(-1)", bench.install(-1));
        Due.no("install(2)", bench.install(2));
        Due.no("install(5)", bench.install(5));
        Due.same("holds nothing", bench.device(0), 0);
        Due.yes("install(0)", bench.install(0));
        Due.yes("install(1)", bench.install(1));
        Due.same("bytes", bench.device(0), 3);
        Due.same("check", bench.device(1), bench.check(1));
        Due.same("its last byte", bench.device(12), 6);
        for (int what = 13; what < 130; what++) {
            Due.same("newly written, device(" + what + ")", bench.device(what), 0);
        }
        Due.same("behind the area", bench.device(130), -1);
        Due.same("far behind the area", bench.device(Integer.MAX_VALUE), -1);
        Due.same("device(-1)", bench.device(-1), -1);
        Due.same("device(least)", bench.device(Integer.MIN_VALUE), -1);
        Due.same("device(7)", bench.device(7), -1);
        Due.same("device(9)", bench.device(9), -1);
        bench.update(1, 0);
        bench.write(9);
        bench.cut();
        Due.yes("install ends an update", bench.install(0));
        int[] whats = {60, bench.check(0), 0, 9, 0, -1, -1};
        for (int what = 0; what < whats.length; what++) {
            Due.same("device(" + what + ") behind it", bench.device(what), whats[what]);
        }
        Due.same("on() behind it", bench.on(), -2);
        Due.same("write() behind it", bench.write(1), -2);
        Due.no("cut() behind it", bench.cut());
        Due.same("the next update", bench.update(0, 0), 122);
        newlyWrittenBehindUpdates();
    }

    /** What an UPDATE leaves behind its new bytes stays until a VERSION is newly written. */
    private static void newlyWrittenBehindUpdates() {
        PatchBench bench = new PatchBench();
        Fill.version(bench, 0, BASE);
        Fill.version(bench, 1, 4, 5, 6);
        bench.install(0);
        bench.update(0, 1);
        bench.write(1000);
        Due.same("an update leaves what is behind", bench.device(13), BASE[3]);
        Due.no("install(2)", bench.install(2));
        Due.same("install(2) does nothing", bench.device(13), BASE[3]);
        bench.install(1);
        Due.same("gone, newly written", bench.device(13), 0);
        Due.same("the last old byte is gone too", bench.device(69), 0);
        bench.update(1, 0);
        bench.write(1000);
        Due.same("the old bytes are back", bench.device(69), BASE[59]);
        bench.update(0, 1);
        bench.write(30);
        bench.install(1);
        Due.same("gone in the midst of an update", bench.device(69), 0);
    }

    private static void refusals() {
        PatchBench bench = new PatchBench();
        Fill.version(bench, 0, BASE);
        Fill.version(bench, 1, Fill.part(BASE, 0, 59));
        Fill.version(bench, 2, Fill.shifted(BASE, 1));
        Due.same("a device that holds nothing", bench.update(0, 1), -3);
        bench.install(0);
        Due.same("another number", bench.update(1, 0), -3);
        Due.same("another check", bench.update(2, 0), -3);
        Due.same("nothing is begun", bench.device(2), 0);
        anotherNumberOfTheSameCheck();
        Due.same("update(0, 3)", bench.update(0, 3), -1);
        Due.same("update(3, 0)", bench.update(3, 0), -1);
        Due.same("update(-1, 0)", bench.update(-1, 0), -1);
        Due.same("update(0, 5)", bench.update(0, 5), -1);
        Due.same("write(1) of none", bench.write(1), -2);
        Due.same("write(-1) of none", bench.write(-1), -1);
        Due.same("write(1001) of none", bench.write(1001), -1);
        Due.same("begun", bench.update(0, 1), 1 + 118 + 1);
        Due.same("begun, and no such version", bench.update(0, 3), -1);
        Due.same("begun, and a wrong base", bench.update(2, 0), -2);
        Due.same("write(-1)", bench.write(-1), -1);
        Due.same("write(1001)", bench.write(1001), -1);
        Due.same("write(0)", bench.write(0), 0);
        Due.same("on() without a cut", bench.on(), -2);
        Due.yes("cut()", bench.cut());
        Due.no("cut() again", bench.cut());
        Due.same("update() of a cut one", bench.update(0, 1), -2);
        Due.same("write() of a cut one", bench.write(1), -2);
        Due.same("write(1001) of a cut one", bench.write(1001), -1);
        Due.same("on()", bench.on(), 120);
        Due.same("on() again", bench.on(), -2);
        Due.same("all of them and no more", bench.write(1000), 120);
        Due.same("write() behind the last", bench.write(1), -2);
    }

    private static void anotherNumberOfTheSameCheck() {
        PatchBench bench = new PatchBench();
        Fill.version(bench, 0, 10, 50);
        Fill.version(bench, 1, 37, 17, 6);
        Due.same("check(0)", bench.check(0), 1353);
        Due.same("check(1)", bench.check(1), 1353);
        bench.install(0);
        Due.same("another number of the same check", bench.update(1, 0), -3);
    }

    /** Going up: 40 bytes come down by 20; then SHIFTs in place, all kept. */
    private static void writesUp() {
        PatchBench bench = new PatchBench();
        Fill.version(bench, 0, BASE);
        Fill.version(bench, 1, Fill.part(BASE, 20, 40));
        Fill.version(bench, 2, Fill.shifted(Fill.part(BASE, 20, 40), 5));
        bench.install(0);
        Due.same("update(0, 1)", bench.update(0, 1), 82);
        Due.same("up", bench.device(6), 0);
        bench.write(4);
        Due.same("marked", bench.device(5), 1);
        Due.same("byte 0", bench.device(10), BASE[20]);
        Due.same("byte 1", bench.device(11), BASE[21]);
        Due.same("byte 2", bench.device(12), BASE[2]);
        Due.same("the old number", bench.device(0), 60);
        Due.yes("the check is of what is there", bench.device(1) != bench.check(0));
        Due.same("all but the last", bench.write(77), 77);
        Due.same("marked", bench.device(5), 40);
        Due.same("not yet", bench.device(0), 60);
        Due.same("the last", bench.write(5), 1);
        Due.same("the new number", bench.device(0), 40);
        Due.same("the new check", bench.device(1), bench.check(1));
        Due.same("what is behind stays", bench.device(69), BASE[59]);
        Due.same("update(1, 2)", bench.update(1, 2), 40 + 82);
        Due.same("up if alike", bench.device(6), 0);
        bench.write(40);
        Due.same("kept", bench.device(4), 40);
        Due.same("not marked", bench.device(5), -1);
        bench.write(1);
        Due.same("marked", bench.device(5), 0);
        bench.write(81);
        Due.same("done", bench.device(1), bench.check(2));
        Due.same("nothing is kept", bench.device(4), 0);
        Due.same("writes ever", bench.device(3), 82 + 122);
    }

    private static void writesDown() {
        PatchBench bench = new PatchBench();
        Fill.version(bench, 0, BASE);
        Fill.version(bench, 1, Fill.joined(new int[] {1, 2}, BASE));
        bench.install(0);
        Due.same("update(0, 1)", bench.update(0, 1), 126);
        Due.same("down", bench.device(6), 1);
        bench.write(2);
        Due.same("the last one first", bench.device(10 + 61), BASE[59]);
        Due.same("not marked", bench.device(5), 0);
        bench.write(1000);
        Due.same("done", bench.device(1), bench.check(1));
        Due.same("no way without", bench.device(6), -1);
    }

    /** Each WRITE of an update is followed by a cut once, before and behind some others. */
    private static void cutsEverywhere() {
        int[] moved = Fill.joined(Fill.shifted(Fill.part(BASE, 0, 12), 4), new int[] {8}, Fill.part(BASE, 40, 20),
            Fill.part(BASE, 13, 15));
        PatchBench bench = new PatchBench();
        Fill.version(bench, 0, BASE);
        Fill.version(bench, 1, moved);
        int kept = bench.room(0, 1, 2);
        Due.yes("some are kept", kept > 0);
        bench.install(0);
        int all = bench.update(0, 1);
        Due.same("writes", all, kept + 2 * moved.length + 2);
        for (int at = 0; at < all; at++) {
            bench = new PatchBench();
            Fill.version(bench, 0, BASE);
            Fill.version(bench, 1, moved);
            bench.install(0);
            bench.update(0, 1);
            Due.same("write(" + at + ")", bench.write(at), at);
            Due.same("kept", bench.device(4), Math.min(at, kept));
            Due.yes("cut", bench.cut());
            Due.same("cut is told", bench.device(2), 2);
            int behind = at <= kept ? 0 : at - (at - kept - 1) % 2;
            Due.same("on() behind " + at, bench.on(), all - behind);
            Due.same("on is told", bench.device(2), 1);
            Due.same("kept anew", bench.device(4), at <= kept ? 0 : kept);
            Due.same("mark", bench.device(5), at <= kept ? -1 : (at - kept - 1) / 2);
            bench.write(1);
            bench.cut();
            bench.on();
            bench.write(1000);
            Due.same("none is begun", bench.device(2), 0);
            for (int i = 0; i < moved.length; i++) {
                Due.same("byte " + i + " cut at " + at, bench.device(10 + i), moved[i]);
            }
        }
    }

    /** A device with other bytes of the same number and CHECK takes the patch, and makes what it makes. */
    private static void alikeChecksAreNotTold() {
        PatchBench bench = new PatchBench();
        Fill.version(bench, 0, Fill.joined(new int[] {10, 50}, BASE));
        Fill.version(bench, 1, Fill.joined(new int[] {11, 19}, BASE));
        Fill.version(bench, 2, Fill.shifted(Fill.joined(new int[] {11, 19}, BASE), 2));
        bench.install(0);
        Due.same("update(1, 2)", bench.update(1, 2), 62 + 2 * 62 + 2);
        bench.write(1000);
        Due.same("byte 0", bench.device(10), 12);
        Due.same("byte 1", bench.device(11), 52);
    }

    private static void versionsReplacedMeanwhile() {
        PatchBench bench = new PatchBench();
        int[] fresh = Fill.joined(new int[] {1, 2, 3}, Fill.shifted(BASE, 7));
        Fill.version(bench, 0, BASE);
        Fill.version(bench, 1, fresh);
        bench.install(0);
        int all = bench.update(0, 1);
        bench.write(all / 3);
        Fill.version(bench, 0, 5);
        Fill.version(bench, 1, 6, 7);
        bench.room(0, 1, 2);
        bench.melt(0, 1, 0);
        Due.same("the rest", bench.write(1000), all - all / 3);
        Due.same("bytes", bench.device(0), fresh.length);
        for (int i = 0; i < fresh.length; i++) {
            Due.same("byte " + i, bench.device(10 + i), fresh[i]);
        }
    }
}
