/** Promise 10 and which old bytes are KEPT, at their edges, a method for each of the document's sentences. */
public final class RoomEdgesTest extends Edges {
    public static void main(String[] args) {
        noSuchVersions();
        noSuchWhat();
        copiedInPlace();
        shiftedInPlace();
        oneAbove();
        oneBelow();
        addedOnes();
        usedTwice();
        usedAboveAndBelow();
        usedInPlaceAndElsewhere();
        behindTheNewEnd();
        allOfThem();
        betterOne();
        Due.end();
    }

    private static void roomIs(int[] old, int[] fresh, int up, int down) {
        PatchBench bench = new PatchBench();
        Fill.version(bench, 4, old);
        Fill.version(bench, 0, fresh);
        Due.same("room(4, 0, 0)", bench.room(4, 0, 0), up);
        Due.same("room(4, 0, 1)", bench.room(4, 0, 1), down);
        Due.same("room(4, 0, 2)", bench.room(4, 0, 2), Math.min(up, down));
        bench.install(4);
        int kept = Math.min(up, down);
        Due.same("update(4, 0)", bench.update(4, 0), kept + 1 + 2 * fresh.length + 1);
        Due.same("which way", bench.device(6), down < up ? 1 : 0);
        bench.write(kept + 1);
        Due.same("bytes KEPT", bench.device(4), kept);
        bench.write(1000);
        Due.same("the new CHECK", bench.device(1), bench.check(0));
    }

    private static void noSuchVersions() {
        Due.about("10: NONE: no such VERSIONS");
        PatchBench bench = new PatchBench();
        Fill.version(bench, 0, base(0, 10));
        Fill.version(bench, 4, base(3, 7));
        for (int v : new int[] {LEAST, -2, -1, 1, 2, 3, 5, 6, MOST}) {
            for (int what = 0; what <= 2; what++) {
                Due.same("room(" + v + ", 0, " + what + ")", bench.room(v, 0, what), -1);
                Due.same("room(0, " + v + ", " + what + ")", bench.room(0, v, what), -1);
                Due.same("room(" + v + ", " + v + ", " + what + ")", bench.room(v, v, what), -1);
            }
        }
        Due.same("room(0, 4, 1)", bench.room(0, 4, 1), 7);
    }

    private static void noSuchWhat() {
        Due.about("10: NONE: others");
        PatchBench bench = new PatchBench();
        Fill.version(bench, 0, base(0, 10));
        Fill.version(bench, 4, base(3, 7));
        for (int what : new int[] {LEAST, -2, -1, 3, 4, MOST}) {
            Due.same("room(0, 4, " + what + ")", bench.room(0, 4, what), -1);
            Due.same("room(0, 0, " + what + ")", bench.room(0, 0, what), -1);
        }
    }

    private static void copiedInPlace() {
        Due.about("KEPT: at p itself by a SHIFT, so not by a COPY");
        roomIs(base(0, 30), base(0, 30), 0, 0);
        roomIs(base(0, 30), base(0, 20), 0, 0);
        roomIs(base(0, 30), Fill.joined(alien(0, 5), base(5, 25)), 0, 0);
    }

    private static void shiftedInPlace() {
        Due.about("KEPT: or at p itself by a SHIFT");
        roomIs(base(0, 30), Fill.shifted(base(0, 30), 1), 30, 30);
        roomIs(base(0, 30), Fill.joined(base(0, 20), Fill.shifted(base(20, 10), 255)), 10, 10);
        roomIs(base(0, 4), Fill.shifted(base(0, 4), 128), 4, 4);
    }

    private static void oneAbove() {
        Due.about("KEPT: up: q above p");
        roomIs(base(0, 30), Fill.joined(alien(0, 1), base(0, 30)), 30, 0);
        roomIs(base(0, 30), Fill.joined(alien(0, 1), Fill.shifted(base(0, 30), 7)), 30, 0);
    }

    private static void oneBelow() {
        Due.about("KEPT: down: q below p");
        roomIs(base(0, 30), base(1, 29), 0, 29);
        roomIs(base(0, 30), Fill.shifted(base(1, 29), 7), 0, 29);
    }

    private static void addedOnes() {
        Due.about("KEPT: if some new byte is made of it: of an ADD none is");
        roomIs(base(0, 30), alien(0, 40), 0, 0);
        roomIs(base(0, 1), base(0, 1), 0, 0);
    }

    private static void usedTwice() {
        Due.about("KEPT: some new byte: an old byte is KEPT once");
        roomIs(base(0, 10), Fill.joined(base(0, 10), base(0, 10), base(0, 10)), 10, 0);
        roomIs(Fill.joined(alien(0, 30), base(0, 10)), Fill.joined(base(0, 10), base(0, 10), base(0, 10)), 0, 10);
        roomIs(base(0, 10), Fill.joined(alien(0, 1), base(0, 10), Fill.shifted(base(0, 10), 3)), 10, 0);
    }

    private static void usedAboveAndBelow() {
        Due.about("KEPT: above p and below p: for both directions");
        int[] old = Fill.joined(alien(0, 10), base(0, 10));
        roomIs(old, Fill.joined(base(0, 10), alien(20, 10), base(0, 10)), 10, 10);
        // The second use at its own place, by a COPY: for one direction alone.
        roomIs(old, Fill.joined(base(0, 10), base(0, 10)), 0, 10);
        roomIs(old, Fill.joined(base(0, 10), alien(20, 1), base(0, 10)), 10, 10);
    }

    private static void usedInPlaceAndElsewhere() {
        Due.about("KEPT: in place by a COPY, above p or below p: for one direction; by a SHIFT: for both");
        roomIs(base(0, 10), Fill.joined(base(0, 10), Fill.shifted(base(0, 10), 3)), 10, 0);
        roomIs(base(0, 10), Fill.joined(Fill.shifted(base(0, 10), 3), base(0, 10)), 10, 10);
    }

    private static void behindTheNewEnd() {
        Due.about("KEPT: down: q below p, behind the new bytes' end too");
        roomIs(base(0, 40), base(30, 10), 0, 10);
        roomIs(BASE, base(117, 3), 0, 3);
    }

    private static void allOfThem() {
        Due.about("10: How many bytes must be KEPT: up to 120");
        roomIs(BASE, Fill.shifted(BASE, 1), 120, 120);
        roomIs(BASE, BASE, 0, 0);
        roomIs(BASE, Fill.joined(base(60, 60), base(0, 60)), 60, 60);
        roomIs(base(0, 119), Fill.joined(alien(0, 1), base(0, 119)), 119, 0);
    }

    private static void betterOne() {
        Due.about("10: by the better one (2); the direction for which fewer are KEPT, up if alike");
        roomIs(base(0, 40), Fill.joined(base(20, 20), base(0, 20)), 20, 20);
        roomIs(base(0, 40), Fill.joined(base(21, 19), base(0, 21)), 21, 19);
        roomIs(base(0, 40), Fill.joined(base(19, 21), base(0, 19)), 19, 21);
    }
}
