/** Promises 11 to 16 and THE DEVICE at their edges, a method for each of the document's sentences. */
public final class DeviceEdgesTest extends Edges {
    private static final int[] NO_VERSIONS = {LEAST, -2, -1, 2, 3, 5, 6, MOST};
    private static final int[] OLD = base(0, 10);
    /** Five shifted and five copied at their own places: five KEPT, going up as both ways are alike. */
    private static final int[] UP = Fill.joined(Fill.shifted(base(0, 5), 3), base(5, 5));
    /** Two more at the front: none KEPT going down. */
    private static final int[] DOWN = Fill.joined(alien(0, 2), OLD);
    /** The halves change places, one of them shifted: five KEPT, going up as both ways are alike. */
    private static final int[] UP_CHANGED = Fill.joined(base(5, 5), Fill.shifted(base(0, 5), 200));
    /** The same, but that fewer bytes come down: four KEPT going down. */
    private static final int[] DOWN_CHANGED = Fill.joined(base(6, 4), Fill.shifted(base(0, 6), 200));

    public static void main(String[] args) {
        installsTheShortestAndTheLongest();
        installsNoSuchVersion();
        installClearsTheArea();
        installEndsAnUpdate();
        installEndsAnUpdateThatIsCut();
        updatesOfNoSuchVersions();
        updatesWhileOneIsBegun();
        updatesOfAnotherNumber();
        updatesOfAnotherCheck();
        updatesOfADeviceThatHoldsNothing();
        updatesByWhatIsAlike();
        updatesBehindAnUpdate();
        fewestAndMostWrites();
        writesOfAnotherN();
        writesOfNone();
        writesWhileCut();
        writesNoMoreThanThereAre();
        writesOneByOne();
        endsWithTheLastMark();
        whatIsBehindStays();
        cutsOfNone();
        cutsAgain();
        onWithoutACut();
        goesOnBehindTheLatestMark();
        isCutAgainAndAgain();
        countsAllWritesEver();
        tellsNoOthers();
        tellsTheWholeArea();
        Due.end();
    }

    /** VERSION 0 is on the device, 1 is what it becomes. */
    private static PatchBench installed(int[] old, int[] fresh) {
        PatchBench bench = new PatchBench();
        Fill.version(bench, 0, old);
        Fill.version(bench, 1, fresh);
        Due.yes("install(0)", bench.install(0));
        return bench;
    }

    private static PatchBench begun(int[] old, int[] fresh, int writes) {
        PatchBench bench = installed(old, fresh);
        bench.update(0, 1);
        Due.same("write(" + writes + ")", bench.write(writes), writes);
        return bench;
    }

    private static void deviceIs(String when, PatchBench bench, int... due) {
        for (int what = 0; what < due.length; what++) {
            Due.same(when + ": device(" + what + ")", bench.device(what), due[what]);
        }
    }

    private static void areaIs(String when, PatchBench bench, int[] due) {
        for (int i = 0; i < due.length; i++) {
            Due.same(when + ": byte " + i + " of the AREA", bench.device(10 + i), due[i]);
        }
    }

    private static void installsTheShortestAndTheLongest() {
        Due.about("11: THE DEVICE holds a VERSION, newly written: true");
        PatchBench bench = new PatchBench();
        Fill.version(bench, 0, 77);
        Fill.version(bench, 4, BASE);
        Due.yes("install(0)", bench.install(0));
        deviceIs("of one byte", bench, 1, 31 + 78, 0, 0, 0, -1, -1);
        areaIs("of one byte", bench, new int[] {77, 0});
        Due.yes("install(4)", bench.install(4));
        deviceIs("of 120 bytes", bench, 120, bench.check(4), 0, 0, 0, -1, -1);
        areaIs("of 120 bytes", bench, BASE);
    }

    private static void installsNoSuchVersion() {
        Due.about("11: False, doing nothing: no such VERSION");
        PatchBench bench = begun(OLD, UP, 8);
        for (int v : NO_VERSIONS) {
            Due.no("install(" + v + ")", bench.install(v));
            deviceIs("as it was", bench, 10, bench.device(1), 1, 8, 5, 1, 0);
        }
        Due.no("install(4)", bench.install(4));
        Due.same("the rest of the UPDATE", bench.write(1000), 19);
    }

    private static void installClearsTheArea() {
        Due.about("11: newly written");
        PatchBench bench = new PatchBench();
        Fill.version(bench, 0, BASE);
        Fill.version(bench, 1, alien(0, 3));
        bench.install(0);
        bench.install(1);
        areaIs("a shorter one", bench, Fill.joined(alien(0, 3), new int[117]));
        bench.install(0);
        bench.update(0, 1);
        bench.write(1000);
        bench.install(1);
        areaIs("behind an UPDATE", bench, Fill.joined(alien(0, 3), new int[117]));
    }

    private static void installEndsAnUpdate() {
        Due.about("11: (An UPDATE that was begun is gone.)");
        for (int writes : new int[] {0, 3, 5, 6, 7, 26}) {
            PatchBench bench = begun(OLD, UP, writes);
            Due.yes("install(1)", bench.install(1));
            deviceIs("gone behind WRITE " + writes, bench, 10, bench.check(1), 0, writes, 0, -1, -1);
            areaIs("gone behind WRITE " + writes, bench, UP);
            Due.same("write(1)", bench.write(1), -2);
            Due.no("cut()", bench.cut());
            Due.same("update(0, 1)", bench.update(0, 1), -3);
            Due.same("update(1, 0)", bench.update(1, 0), 27);
            deviceIs("begun anew", bench, 10, bench.check(1), 1, writes, 0, -1, 0);
        }
    }

    private static void installEndsAnUpdateThatIsCut() {
        Due.about("11: (An UPDATE that was begun is gone.) Its cut too");
        PatchBench bench = begun(OLD, UP, 9);
        bench.cut();
        Due.yes("install(0)", bench.install(0));
        deviceIs("gone", bench, 10, bench.check(0), 0, 9, 0, -1, -1);
        Due.same("on()", bench.on(), -2);
        Due.same("update(0, 1)", bench.update(0, 1), 27);
        Due.same("on()", bench.on(), -2);
        Due.same("write(1000)", bench.write(1000), 27);
        areaIs("done", bench, UP);
    }

    private static void updatesOfNoSuchVersions() {
        Due.about("12: NONE, doing nothing: no such VERSIONS");
        PatchBench bench = installed(OLD, UP);
        for (int v : NO_VERSIONS) {
            Due.same("update(" + v + ", 0)", bench.update(v, 0), -1);
            Due.same("update(0, " + v + ")", bench.update(0, v), -1);
            Due.same("update(" + v + ", " + v + ")", bench.update(v, v), -1);
            Due.same("none is begun", bench.device(2), 0);
        }
        bench.update(0, 1);
        Due.same("begun: update(0, 4)", bench.update(0, 4), -1);
        Due.same("begun: update(-1, 1)", bench.update(-1, 1), -1);
        bench.cut();
        Due.same("cut: update(0, 4)", bench.update(0, 4), -1);
        Due.same("cut: update(5, 1)", bench.update(5, 1), -1);
    }

    private static void updatesWhileOneIsBegun() {
        Due.about("12: -2, doing nothing: one is begun");
        PatchBench bench = begun(OLD, UP, 0);
        Due.same("the same", bench.update(0, 1), -2);
        Due.same("by a wrong base", bench.update(1, 0), -2);
        Due.same("write(10)", bench.write(10), 10);
        Due.same("amid it", bench.update(0, 1), -2);
        deviceIs("amid it", bench, 10, bench.device(1), 1, 10, 5, 2, 0);
        Due.yes("cut()", bench.cut());
        Due.same("cut", bench.update(0, 1), -2);
        deviceIs("cut", bench, 10, bench.device(1), 2, 10, 5, 2, 0);
        Due.same("on()", bench.on(), 17);
        Due.same("write(16)", bench.write(16), 16);
        Due.same("ahead of the last WRITE", bench.update(1, 0), -2);
        Due.same("write(1)", bench.write(1), 1);
        Due.same("behind it", bench.update(1, 0), 27);
    }

    private static void updatesOfAnotherNumber() {
        Due.about("refused, if the number of bytes that THE DEVICE holds isn't the PATCH's");
        PatchBench bench = new PatchBench();
        Fill.version(bench, 0, 10, 50);
        Fill.version(bench, 1, 37, 17, 6);
        Due.same("the CHECKs are alike", bench.check(0), bench.check(1));
        bench.install(0);
        Due.same("a longer base", bench.update(1, 0), -3);
        deviceIs("as it was", bench, 2, bench.check(0), 0, 0, 0, -1, -1);
        bench.install(1);
        Due.same("a shorter base", bench.update(0, 1), -3);
        Due.same("the right one", bench.update(1, 0), 1 + 4 + 1);
    }

    private static void updatesOfAnotherCheck() {
        Due.about("refused, if their CHECK isn't the PATCH's");
        PatchBench bench = new PatchBench();
        Fill.version(bench, 0, OLD);
        int[] last = OLD.clone();
        last[9] ^= 1;
        Fill.version(bench, 1, last);
        int[] first = OLD.clone();
        first[0] ^= 128;
        Fill.version(bench, 2, first);
        bench.install(0);
        Due.same("another last byte", bench.update(1, 0), -3);
        Due.same("another first byte", bench.update(2, 0), -3);
        deviceIs("as it was", bench, 10, bench.check(0), 0, 0, 0, -1, -1);
        areaIs("as it was", bench, OLD);
        Due.same("the right one", bench.update(0, 2), 22);
    }

    private static void updatesOfADeviceThatHoldsNothing() {
        Due.about("12: -3: refused: a new DEVICE holds nothing");
        PatchBench bench = new PatchBench();
        Fill.version(bench, 0, 0);
        Fill.version(bench, 1, OLD);
        Due.same("update(0, 1)", bench.update(0, 1), -3);
        Due.same("update(1, 1)", bench.update(1, 1), -3);
        deviceIs("as it was", bench, 0, 1, 0, 0, 0, -1, -1);
    }

    private static void updatesByWhatIsAlike() {
        Due.about("refused if number or CHECK aren't the PATCH's: else not, whatever VERSION was installed");
        PatchBench bench = installed(OLD, UP);
        Fill.version(bench, 3, OLD);
        Due.same("update(3, 1)", bench.update(3, 1), 27);
        PatchBench other = installed(OLD, UP);
        Fill.version(other, 0, alien(0, 10));
        Due.same("VERSION 0 is another one", other.update(0, 1), -3);
        Fill.version(other, 0, OLD);
        Due.same("VERSION 0 is the old one", other.update(0, 1), 27);
    }

    private static void updatesBehindAnUpdate() {
        Due.about("at last (it holds the new bytes then): the next base is the new VERSION");
        PatchBench bench = begun(OLD, DOWN, 26);
        Due.same("the old base", bench.update(0, 1), -3);
        Due.same("the new base", bench.update(1, 0), 22);
        bench.write(1000);
        deviceIs("back again", bench, 10, bench.check(0), 0, 48, 0, -1, -1);
    }

    private static void fewestAndMostWrites() {
        Due.about("12: how many WRITES it has");
        Due.same("one byte", installed(new int[] {1}, new int[] {2}).update(0, 1), 4);
        Due.same("one byte of 120", installed(BASE, new int[] {2}).update(0, 1), 4);
        Due.same("120 of one byte", installed(new int[] {2}, BASE).update(0, 1), 242);
        Due.same("120, all KEPT", installed(BASE, Fill.shifted(BASE, 1)).update(0, 1), 362);
        PatchBench bench = begun(BASE, Fill.shifted(BASE, 1), 362);
        areaIs("120, all KEPT", bench, Fill.shifted(BASE, 1));
        Due.same("none is begun", bench.device(2), 0);
    }

    private static void writesOfAnotherN() {
        Due.about("13: NONE: another n (0 to 1,000)");
        PatchBench bench = installed(OLD, UP);
        for (int round = 0; round < 3; round++) {
            for (int n : new int[] {LEAST, -2, -1, 1001, 1002, MOST}) {
                Due.same("write(" + n + ")", bench.write(n), -1);
            }
            Due.same("none were made", bench.device(3), 0);
            if (round == 0) {
                Due.same("update(0, 1)", bench.update(0, 1), 27);
            } else if (round == 1) {
                Due.yes("cut()", bench.cut());
            }
        }
        Due.same("on()", bench.on(), 27);
        Due.same("write(0)", bench.write(0), 0);
        Due.same("write(1000)", bench.write(1000), 27);
    }

    private static void writesOfNone() {
        Due.about("13: -2: none is begun");
        PatchBench bench = installed(OLD, UP);
        for (int n : new int[] {0, 1, 27, 1000}) {
            Due.same("ahead of it: write(" + n + ")", bench.write(n), -2);
        }
        Due.same("update(1, 0)", bench.update(1, 0), -3);
        Due.same("refused: write(1)", bench.write(1), -2);
        bench.update(0, 1);
        bench.write(27);
        for (int n : new int[] {0, 1, 27, 1000}) {
            Due.same("behind it: write(" + n + ")", bench.write(n), -2);
        }
        Due.same("WRITES ever", bench.device(3), 27);
    }

    private static void writesWhileCut() {
        Due.about("13: -2: its power is cut");
        PatchBench bench = begun(OLD, UP, 8);
        bench.cut();
        for (int n : new int[] {0, 1, 19, 1000}) {
            Due.same("write(" + n + ")", bench.write(n), -2);
        }
        Due.same("WRITES ever", bench.device(3), 8);
        Due.same("on()", bench.on(), 19);
        Due.same("write(1)", bench.write(1), 1);
    }

    private static void writesNoMoreThanThereAre() {
        Due.about("13: how many were made");
        Due.same("one less", begun(OLD, UP, 20).write(6), 6);
        Due.same("all", begun(OLD, UP, 20).write(7), 7);
        Due.same("one more", begun(OLD, UP, 20).write(8), 7);
        Due.same("far more", begun(OLD, UP, 20).write(1000), 7);
        Due.same("none", begun(OLD, UP, 20).write(0), 0);
        Due.same("one less: it is begun", begun(OLD, UP, 26).device(2), 1);
        Due.same("all: none is begun", begun(OLD, UP, 27).device(2), 0);
    }

    private static void writesOneByOne() {
        Due.about("the bytes to be KEPT; then a MARK that they are; then for each new byte it, and the MARK behind it");
        oneByOne(OLD, UP, 5, 0);
        oneByOne(OLD, DOWN, 0, 1);
        oneByOne(OLD, UP_CHANGED, 5, 0);
        oneByOne(OLD, DOWN_CHANGED, 4, 1);
        oneByOne(new int[] {5}, new int[] {6}, 0, 0);
    }

    private static void oneByOne(int[] old, int[] fresh, int kept, int way) {
        int all = kept + 2 * fresh.length + 2;
        for (int made = 0; made < all; made++) {
            PatchBench bench = begun(old, fresh, made);
            int behind = made - kept - 1;
            int marked = behind < 0 ? -1 : behind / 2;
            int[] area = partly(old, fresh, Math.max(0, (behind + 1) / 2), way);
            int check = checkOf(area, old.length);
            deviceIs("behind WRITE " + made, bench, old.length, check, 1, made, Math.min(made, kept), marked, way);
            areaIs("behind WRITE " + made, bench, area);
        }
        PatchBench bench = begun(old, fresh, all);
        deviceIs("done", bench, fresh.length, bench.check(1), 0, all, 0, -1, -1);
        areaIs("done", bench, partly(old, fresh, fresh.length, way));
    }

    /** The AREA when so many new bytes are written over the old ones. */
    private static int[] partly(int[] old, int[] fresh, int written, int way) {
        int[] area = Fill.joined(old, new int[120 - old.length]);
        for (int i = 0; i < written; i++) {
            int q = way == 0 ? i : fresh.length - 1 - i;
            area[q] = fresh[q];
        }
        return area;
    }

    private static int checkOf(int[] bytes, int n) {
        int sum = 1;
        for (int i = 0; i < n; i++) {
            sum = (sum * 31 + bytes[i] + 1) % 65521;
        }
        return sum;
    }

    private static void endsWithTheLastMark() {
        Due.about("at last the MARK that it's done (it holds the new bytes then; nothing is KEPT)");
        PatchBench bench = begun(OLD, Fill.joined(DOWN_CHANGED, alien(0, 2)), 4 + 1 + 24);
        deviceIs("ahead of it", bench, 10, bench.device(1), 1, 29, 4, 12, 1);
        Due.same("write(1)", bench.write(1), 1);
        deviceIs("behind it", bench, 12, bench.check(1), 0, 30, 0, -1, -1);
        areaIs("behind it", bench, Fill.joined(DOWN_CHANGED, alien(0, 2)));
    }

    private static void whatIsBehindStays() {
        Due.about("what is behind these in the AREA stays");
        PatchBench bench = begun(BASE, alien(0, 7), 16);
        Due.same("bytes", bench.device(0), 7);
        areaIs("a shorter one", bench, Fill.joined(alien(0, 7), base(7, 113)));
        PatchBench down = begun(base(0, 20), Fill.joined(alien(0, 1), base(0, 10)), 24);
        areaIs("going down", down, Fill.joined(alien(0, 1), base(0, 10), base(11, 9), new int[100]));
    }

    private static void cutsOfNone() {
        Due.about("14: False, doing nothing: no UPDATE is begun");
        PatchBench bench = new PatchBench();
        Due.no("of a new object", bench.cut());
        bench = installed(OLD, UP);
        Due.no("ahead of an UPDATE", bench.cut());
        bench.update(1, 0);
        Due.no("of one that was refused", bench.cut());
        Due.same("on()", bench.on(), -2);
        bench.update(0, 1);
        bench.write(27);
        Due.no("behind an UPDATE", bench.cut());
        Due.same("on()", bench.on(), -2);
    }

    private static void cutsAgain() {
        Due.about("14: False, doing nothing: it's cut");
        PatchBench bench = begun(OLD, UP, 0);
        Due.yes("ahead of the first WRITE", bench.cut());
        Due.no("it's cut", bench.cut());
        Due.same("device(2)", bench.device(2), 2);
        Due.same("on()", bench.on(), 27);
        Due.yes("on again", bench.cut());
        Due.same("on()", bench.on(), 27);
        bench.write(26);
        Due.yes("ahead of the last WRITE", bench.cut());
        Due.no("it's cut", bench.cut());
        Due.same("on()", bench.on(), 1);
    }

    private static void onWithoutACut() {
        Due.about("15: -2, doing nothing: it isn't cut");
        Due.same("of a new object", new PatchBench().on(), -2);
        PatchBench bench = installed(OLD, UP);
        Due.same("of none", bench.on(), -2);
        bench.update(0, 1);
        // Were it to begin behind the latest MARK, the KEPT bytes would be gone.
        bench.write(3);
        Due.same("begun", bench.on(), -2);
        Due.same("bytes KEPT", bench.device(4), 3);
        bench.cut();
        Due.same("cut", bench.on(), 27);
        Due.same("on", bench.on(), -2);
        Due.same("all", bench.write(1000), 27);
        Due.same("done", bench.on(), -2);
    }

    private static void goesOnBehindTheLatestMark() {
        Due.about("On again it begins at the WRITE behind the latest MARK (KEPT ones anew, if they aren't marked)");
        cutEverywhere(OLD, UP, 5);
        cutEverywhere(OLD, DOWN, 0);
        cutEverywhere(OLD, UP_CHANGED, 5);
        cutEverywhere(OLD, DOWN_CHANGED, 4);
    }

    private static void cutEverywhere(int[] old, int[] fresh, int kept) {
        int all = kept + 2 * fresh.length + 2;
        for (int made = 0; made < all; made++) {
            PatchBench bench = begun(old, fresh, made);
            int check = bench.device(1);
            Due.yes("cut behind WRITE " + made, bench.cut());
            int marks = made <= kept ? 0 : (made - kept + 1) / 2;
            int begin = marks == 0 ? 0 : kept + 2 * marks - 1;
            Due.same("on() behind WRITE " + made, bench.on(), all - begin);
            deviceIs("on behind WRITE " + made, bench, old.length, check, 1, made, marks == 0 ? 0 : kept, marks - 1);
            Due.same("the rest", bench.write(1000), all - begin);
            String done = "done, cut behind WRITE " + made;
            areaIs(done, bench, fresh);
            deviceIs(done, bench, fresh.length, bench.check(1), 0, made + all - begin, 0, -1, -1);
        }
    }

    private static void isCutAgainAndAgain() {
        Due.about("A cut comes between two WRITES: behind each one, and nothing is made twice over");
        for (int[] fresh : new int[][] {UP, DOWN, UP_CHANGED, DOWN_CHANGED}) {
            PatchBench bench = begun(OLD, fresh, 0);
            int kept = bench.room(0, 1, 2);
            // Two WRITES at a time come to the next MARK; those to be KEPT all come at once with theirs.
            Due.same("KEPT and marked", bench.write(kept + 1), kept + 1);
            for (int q = 0; q < fresh.length; q++) {
                for (int again = 0; again < 3; again++) {
                    Due.same("the new byte", bench.write(1), 1);
                    Due.yes("cut()", bench.cut());
                    Due.same("on()", bench.on(), 2 * (fresh.length - q) + 1);
                }
                Due.same("it and its MARK", bench.write(2), 2);
                Due.same("marked", bench.device(5), q + 1);
            }
            Due.same("the last", bench.write(1), 1);
            areaIs("done", bench, fresh);
        }
    }

    private static void countsAllWritesEver() {
        Due.about("16: 3 WRITES of UPDATES ever");
        PatchBench bench = begun(OLD, UP, 4);
        bench.cut();
        bench.on();
        Due.same("not those to come", bench.device(3), 4);
        bench.write(1000);
        Due.same("those made anew too", bench.device(3), 31);
        bench.install(0);
        Due.same("install() has none", bench.device(3), 31);
        bench.update(0, 1);
        bench.write(5);
        Due.same("of all UPDATES", bench.device(3), 36);
    }

    private static void tellsNoOthers() {
        Due.about("16: NONE for others");
        PatchBench[] benches = {new PatchBench(), installed(OLD, UP), begun(OLD, UP, 8)};
        for (PatchBench bench : benches) {
            for (int what : new int[] {LEAST, LEAST + 9, -121, -10, -2, -1, 7, 8, 9, 130, 131, 139, MOST}) {
                Due.same("device(" + what + ")", bench.device(what), -1);
            }
        }
    }

    private static void tellsTheWholeArea() {
        Due.about("16: 10 and more: byte what - 10 of the AREA");
        PatchBench bench = installed(BASE, OLD);
        Due.same("the first", bench.device(10), BASE[0]);
        Due.same("the last", bench.device(129), BASE[119]);
        Due.same("none behind it", bench.device(130), -1);
        PatchBench small = installed(OLD, UP);
        Due.same("behind what it holds", small.device(20), 0);
        Due.same("the last", small.device(129), 0);
    }
}
