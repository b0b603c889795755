/** Promises 1 to 5 at their edges, a method for each of the document's sentences. */
public final class VersionsEdgesTest extends Edges {
    private static final int[] NO_VERSIONS = {LEAST, -5, -1, 5, 6, MOST};

    public static void main(String[] args) {
        newObjectHasNoVersions();
        newDeviceHoldsNothing();
        highestByteFirst();
        tapeTakesTwoHundred();
        tapeTakesNoMore();
        fullTapeStaysAsItIs();
        tapeIsEmptyThen();
        firstBytesOfTheTape();
        inPlaceOfWhatWas();
        versionsAreZeroToFour();
        atLeastOneByte();
        atMostAHundredAndTwentyBytes();
        noMoreThanThereAre();
        refusedVersionKeepsTheTape();
        bytesThatAreTold();
        noneSuchToTell();
        checkOfOneByte();
        checkGoesRound();
        checkOfTheLongest();
        noneSuchToCheck();
        Due.end();
    }

    private static void feedRising(PatchBench bench, int from) {
        int four = (from << 24) | (from + 1 << 16) | (from + 2 << 8) | (from + 3);
        int step = 0x04040404;
        bench.feed(four, four + step, four + 2 * step, four + 3 * step, four + 4 * step);
    }

    private static void newObjectHasNoVersions() {
        Due.about("1: No VERSIONS");
        PatchBench bench = new PatchBench();
        for (int v = 0; v < 5; v++) {
            Due.same("told(" + v + ", -1)", bench.told(v, -1), -1);
            Due.same("told(" + v + ", 0)", bench.told(v, 0), -1);
            Due.same("check(" + v + ")", bench.check(v), -1);
            Due.same("cost(" + v + ", " + v + ")", bench.cost(v, v), -1);
            Due.same("step(" + v + ", " + v + ", -1, 0)", bench.step(v, v, -1, 0), -1);
            Due.same("melt(" + v + ", ..)", bench.melt(v, v, v), -1);
            Due.same("room(" + v + ", " + v + ", 2)", bench.room(v, v, 2), -1);
            Due.no("install(" + v + ")", bench.install(v));
            Due.same("update(" + v + ", " + v + ")", bench.update(v, v), -1);
            Due.no("fleet(" + v + ", 0)", bench.fleet(v, 0));
        }
        Due.same("melted(-1, 0)", bench.melted(-1, 0), -1);
        Due.same("sent()", bench.sent(), -1);
        Due.same("version(0, 1) of an empty tape", bench.version(0, 1), -1);
    }

    private static void newDeviceHoldsNothing() {
        Due.about("1: THE DEVICE holds nothing; AREA of 120 bytes (0 at first)");
        PatchBench bench = new PatchBench();
        int[] due = {0, 1, 0, 0, 0, -1, -1, -1, -1, -1};
        for (int what = 0; what < due.length; what++) {
            Due.same("device(" + what + ")", bench.device(what), due[what]);
        }
        for (int i = 0; i < 120; i++) {
            Due.same("byte " + i + " of the AREA", bench.device(10 + i), 0);
        }
        Due.same("byte 120 of the AREA", bench.device(130), -1);
    }

    private static void highestByteFirst() {
        Due.about("2: of each number the highest first");
        PatchBench bench = new PatchBench();
        Due.same("feed", bench.feed(0x80FF7F01, 0x000000FF, 0xFF000000, MOST, LEAST), 20);
        bench.version(0, 20);
        int[] due = {128, 255, 127, 1, 0, 0, 0, 255, 255, 0, 0, 0, 127, 255, 255, 255, 128, 0, 0, 0};
        for (int i = 0; i < due.length; i++) {
            Due.same("told(0, " + i + ")", bench.told(0, i), due[i]);
        }
    }

    private static void tapeTakesTwoHundred() {
        Due.about("2: how many there are");
        PatchBench bench = new PatchBench();
        for (int many = 20; many <= 200; many += 20) {
            Due.same("feed to " + many, bench.feed(0, 0, 0, 0, 0), many);
        }
    }

    private static void tapeTakesNoMore() {
        Due.about("2: NONE: there would be more than 200");
        PatchBench bench = new PatchBench();
        for (int many = 20; many <= 200; many += 20) {
            bench.feed(many, many, many, many, many);
        }
        for (int i = 0; i < 12; i++) {
            Due.same("feed beyond 200", bench.feed(i, i, i, i, i), -1);
        }
    }

    private static void fullTapeStaysAsItIs() {
        Due.about("2: doing nothing");
        PatchBench bench = new PatchBench();
        for (int i = 0; i < 10; i++) {
            feedRising(bench, i * 20);
        }
        Due.same("feed beyond 200", bench.feed(-1, -1, -1, -1, -1), -1);
        Due.same("version(2, 120)", bench.version(2, 120), 120);
        for (int i = 0; i < 120; i++) {
            Due.same("told(2, " + i + ")", bench.told(2, i), i);
        }
        Due.same("feed behind it", bench.feed(1, 2, 3, 4, 5), 20);
    }

    private static void tapeIsEmptyThen() {
        Due.about("3: the tape (which is empty then)");
        PatchBench bench = new PatchBench();
        feedRising(bench, 100);
        feedRising(bench, 120);
        Due.same("version(0, 10)", bench.version(0, 10), 10);
        Due.same("version(1, 1)", bench.version(1, 1), -1);
        Due.same("told(1, -1)", bench.told(1, -1), -1);
        feedRising(bench, 40);
        Due.same("version(1, 21)", bench.version(1, 21), -1);
        Due.same("version(1, 20)", bench.version(1, 20), 20);
        Due.same("the first byte is a new one", bench.told(1, 0), 40);
        Due.same("the last byte is a new one", bench.told(1, 19), 59);
    }

    private static void firstBytesOfTheTape() {
        Due.about("3: The first n bytes of the tape");
        PatchBench bench = new PatchBench();
        for (int n : new int[] {1, 19, 20, 21, 119, 120}) {
            for (int i = 0; i < 7; i++) {
                feedRising(bench, i * 20 + 5);
            }
            Due.same("version(3, " + n + ")", bench.version(3, n), n);
            Due.same("told(3, -1)", bench.told(3, -1), n);
            Due.same("its first", bench.told(3, 0), 5);
            Due.same("its last", bench.told(3, n - 1), n + 4);
            Due.same("none behind it", bench.told(3, n), -1);
        }
    }

    private static void inPlaceOfWhatWas() {
        Due.about("3: in place of what was");
        PatchBench bench = new PatchBench();
        Fill.version(bench, 1, Fill.rising(1, 120));
        Fill.version(bench, 1, 9, 8);
        Due.same("a shorter one's bytes", bench.told(1, -1), 2);
        Due.same("byte 1", bench.told(1, 1), 8);
        Due.same("byte 2", bench.told(1, 2), -1);
        Due.same("its check", bench.check(1), (31 + 10) * 31 + 9);
        Fill.version(bench, 1, Fill.rising(30, 21));
        Due.same("a longer one's bytes", bench.told(1, -1), 21);
        Due.same("byte 20", bench.told(1, 20), 50);
        Due.same("byte 21", bench.told(1, 21), -1);
        Due.same("its cost to itself", bench.cost(1, 1), 7);
        Fill.version(bench, 1, 7);
        Due.same("its cost then", bench.cost(1, 1), 5);
        Fill.version(bench, 0, base(0, 10));
        Due.same("cost(0, 1)", bench.cost(0, 1), 5);
        Fill.version(bench, 1, base(0, 10));
        Due.same("cost(0, 1), when 1 is another one", bench.cost(0, 1), 7);
        Fill.version(bench, 0, Fill.shifted(base(0, 10), 1));
        Due.same("cost(0, 1), when 0 is another one", bench.cost(0, 1), 8);
    }

    private static void versionsAreZeroToFour() {
        Due.about("3: NONE: no such VERSION (0 to 4)");
        PatchBench bench = new PatchBench();
        feedRising(bench, 0);
        for (int v : NO_VERSIONS) {
            Due.same("version(" + v + ", 1)", bench.version(v, 1), -1);
        }
        for (int v = 0; v < 5; v++) {
            Fill.version(bench, v, Fill.rising(v, v + 1));
        }
        for (int v = 0; v < 5; v++) {
            Due.same("told(" + v + ", -1)", bench.told(v, -1), v + 1);
        }
    }

    private static void atLeastOneByte() {
        Due.about("3: NONE: n below 1");
        PatchBench bench = new PatchBench();
        feedRising(bench, 0);
        for (int n : new int[] {0, -1, -20, LEAST}) {
            Due.same("version(0, " + n + ")", bench.version(0, n), -1);
        }
        Due.same("told(0, -1)", bench.told(0, -1), -1);
        Due.same("version(0, 1)", bench.version(0, 1), 1);
    }

    private static void atMostAHundredAndTwentyBytes() {
        Due.about("3: NONE: above 120");
        PatchBench bench = new PatchBench();
        for (int i = 0; i < 10; i++) {
            feedRising(bench, i * 20);
        }
        for (int n : new int[] {121, 122, 200, MOST}) {
            Due.same("version(0, " + n + ")", bench.version(0, n), -1);
        }
        Due.same("told(0, -1)", bench.told(0, -1), -1);
        Due.same("version(0, 120)", bench.version(0, 120), 120);
    }

    private static void noMoreThanThereAre() {
        Due.about("3: NONE: more than there are");
        PatchBench bench = new PatchBench();
        Due.same("version(0, 1) of none", bench.version(0, 1), -1);
        for (int many = 20; many <= 100; many += 20) {
            feedRising(bench, many);
            Due.same("version(0, " + (many + 1) + ")", bench.version(0, many + 1), -1);
            Due.same("version(0, 120)", bench.version(0, 120), -1);
        }
        Due.same("version(0, 100)", bench.version(0, 100), 100);
    }

    private static void refusedVersionKeepsTheTape() {
        Due.about("3: NONE, doing nothing");
        PatchBench bench = new PatchBench();
        Fill.version(bench, 0, 3, 4, 5);
        feedRising(bench, 60);
        for (int[] wrong : new int[][] {{0, 0}, {0, 21}, {0, 121}, {-1, 5}, {5, 5}}) {
            Due.same("version(" + wrong[0] + ", " + wrong[1] + ")", bench.version(wrong[0], wrong[1]), -1);
            Due.same("the VERSION's bytes", bench.told(0, -1), 3);
            Due.same("its last one", bench.told(0, 2), 5);
        }
        Due.same("version(0, 20)", bench.version(0, 20), 20);
        Due.same("told(0, 0)", bench.told(0, 0), 60);
        Due.same("told(0, 19)", bench.told(0, 19), 79);
    }

    private static void bytesThatAreTold() {
        Due.about("4: Bytes of a VERSION (i NONE), byte i of it");
        PatchBench bench = new PatchBench();
        Fill.version(bench, 0, 0);
        Fill.version(bench, 4, Fill.rising(200, 120));
        Due.same("told(0, -1)", bench.told(0, -1), 1);
        Due.same("told(0, 0)", bench.told(0, 0), 0);
        Due.same("told(4, -1)", bench.told(4, -1), 120);
        Due.same("told(4, 0)", bench.told(4, 0), 200);
        Due.same("told(4, 55)", bench.told(4, 55), 255);
        Due.same("told(4, 56)", bench.told(4, 56), 0);
        Due.same("told(4, 119)", bench.told(4, 119), 63);
    }

    private static void noneSuchToTell() {
        Due.about("4: NONE: none such");
        PatchBench bench = new PatchBench();
        Fill.version(bench, 0, 6);
        Fill.version(bench, 4, Fill.rising(200, 120));
        Due.same("told(0, 1)", bench.told(0, 1), -1);
        for (int i : new int[] {LEAST, -3, -2, 120, 121, MOST}) {
            Due.same("told(0, " + i + ")", bench.told(0, i), -1);
            Due.same("told(4, " + i + ")", bench.told(4, i), -1);
        }
        for (int v : NO_VERSIONS) {
            Due.same("told(" + v + ", -1)", bench.told(v, -1), -1);
            Due.same("told(" + v + ", 0)", bench.told(v, 0), -1);
        }
        for (int v = 1; v < 4; v++) {
            Due.same("told(" + v + ", -1)", bench.told(v, -1), -1);
            Due.same("told(" + v + ", 0)", bench.told(v, 0), -1);
        }
    }

    private static void checkOfOneByte() {
        Due.about("CHECK: from 1 on, for each byte v: it times 31 and v and 1");
        PatchBench bench = new PatchBench();
        Fill.version(bench, 0, 0);
        Due.same("check of 0", bench.check(0), 32);
        Fill.version(bench, 0, 255);
        Due.same("check of 255", bench.check(0), 287);
        Fill.version(bench, 0, 0, 0);
        Due.same("check of 0, 0", bench.check(0), 32 * 31 + 1);
    }

    private static void checkGoesRound() {
        Due.about("CHECK: modulo 65,521");
        PatchBench bench = new PatchBench();
        Fill.version(bench, 0, 36, 4, 16);
        Due.same("65,520", bench.check(0), 65520);
        Fill.version(bench, 0, 36, 4, 17);
        Due.same("65,521", bench.check(0), 0);
        Fill.version(bench, 0, 36, 4, 18);
        Due.same("65,522", bench.check(0), 1);
        Fill.version(bench, 0, 36, 4, 17, 0);
        Due.same("from 0 on", bench.check(0), 1);
        Fill.version(bench, 0, 36, 4, 16, 255);
        Due.same("from 65,520 on", bench.check(0), 225);
    }

    private static void checkOfTheLongest() {
        Due.about("CHECK of 120 bytes");
        PatchBench bench = new PatchBench();
        int[] bytes = new int[120];
        Fill.version(bench, 1, bytes);
        Due.same("all 0", bench.check(1), 17547);
        java.util.Arrays.fill(bytes, 255);
        Fill.version(bench, 1, bytes);
        Due.same("all 255", bench.check(1), 30835);
        Fill.version(bench, 1, Fill.rising(1, 120));
        Due.same("1 to 120", bench.check(1), 26864);
    }

    private static void noneSuchToCheck() {
        Due.about("5: NONE: none such");
        PatchBench bench = new PatchBench();
        Fill.version(bench, 0, 1);
        Fill.version(bench, 4, 1);
        for (int v : NO_VERSIONS) {
            Due.same("check(" + v + ")", bench.check(v), -1);
        }
        for (int v = 1; v < 4; v++) {
            Due.same("check(" + v + ")", bench.check(v), -1);
        }
        Due.same("check(0)", bench.check(0), 33);
        Due.same("check(4)", bench.check(4), 33);
    }
}
