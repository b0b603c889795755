/** Promises 17 to 20 and THE FLEET at their edges, a method for each of the document's sentences. */
public final class FleetEdgesTest extends Edges {
    private static final int[] SIXTY = base(0, 60);
    private static final int[][] PAIRS = {{0, 1}, {0, 2}, {0, 3}, {0, 4}, {1, 2}, {1, 3}, {1, 4}, {2, 3}, {2, 4}, {3, 4}};

    public static void main(String[] args) {
        noneAtFirst();
        fewestAndMostDevices();
        tooFewAndTooManyDevices();
        devicesOfNoSuchVersion();
        refusedNumberStays();
        numberInPlaceOfWhatWas();
        noSuchPair();
        pairOfNoSuchVersions();
        pairsOfAllNumbers();
        heldOrNotAlready();
        sentWithoutVersions();
        sentOfOneVersion();
        greatestVersionsOwnDevices();
        greatestVersionThereIs();
        wholeAtOnce();
        patchesOneBehindTheOther();
        waysThatEndShort();
        wholeIfCheaper();
        mostThatCanBeSent();
        bestOfNoSuchK();
        bestOfNoSuchWhat();
        bestWithoutVersions();
        bestOfNone();
        kOrFewer();
        fewestOfSeveral();
        leastFirstOne();
        leastSecondOne();
        leastThirdOne();
        firstOneAheadOfTheOthers();
        numbersOfPairs();
        heldOnesStay();
        heldOnesDoNotCount();
        Due.end();
    }

    /** VERSIONS 0 to the greatest, each the one ahead shifted by one: a PATCH costs 8, the whole 63. */
    private static PatchBench shifts(int greatest) {
        PatchBench bench = new PatchBench();
        for (int v = 0; v <= greatest; v++) {
            Fill.version(bench, v, Fill.shifted(SIXTY, v));
        }
        return bench;
    }

    private static void devices(PatchBench bench, int... many) {
        for (int v = 0; v < many.length; v++) {
            Due.yes("fleet(" + v + ", " + many[v] + ")", bench.fleet(v, many[v]));
        }
    }

    private static void bestIs(PatchBench bench, int k, int sent, int... pairs) {
        int sum = 0;
        for (int pair : pairs) {
            sum |= 1 << pair;
        }
        Due.same("best(" + k + ", 0)", bench.best(k, 0), sent);
        Due.same("best(" + k + ", 1)", bench.best(k, 1), pairs.length);
        Due.same("best(" + k + ", 2)", bench.best(k, 2), sum);
    }

    private static void noneAtFirst() {
        Due.about("THE FLEET has so many DEVICES of each VERSION (0 at first)");
        PatchBench bench = shifts(4);
        Due.same("sent()", bench.sent(), 0);
        bestIs(bench, 3, 0);
        for (int[] pair : PAIRS) {
            Due.no("none is held at first", bench.hold(pair[0], pair[1], false));
        }
    }

    private static void fewestAndMostDevices() {
        Due.about("17: So many DEVICES of a VERSION are in THE FLEET (0 to 1,000)");
        PatchBench bench = shifts(4);
        Due.yes("fleet(0, 1)", bench.fleet(0, 1));
        Due.same("sent()", bench.sent(), 63);
        Due.yes("fleet(0, 1000)", bench.fleet(0, 1000));
        Due.same("sent()", bench.sent(), 63000);
        Due.yes("fleet(0, 999)", bench.fleet(0, 999));
        Due.same("sent()", bench.sent(), 62937);
        Due.yes("fleet(0, 0)", bench.fleet(0, 0));
        Due.same("sent()", bench.sent(), 0);
        Due.yes("fleet(0, 0) again", bench.fleet(0, 0));
        Due.yes("fleet(4, 1000)", bench.fleet(4, 1000));
    }

    private static void tooFewAndTooManyDevices() {
        Due.about("17: false: not as told");
        PatchBench bench = shifts(4);
        for (int many : new int[] {LEAST, -1000, -1, 1001, 1002, MOST}) {
            for (int v = 0; v < 5; v++) {
                Due.no("fleet(" + v + ", " + many + ")", bench.fleet(v, many));
            }
        }
        Due.same("sent()", bench.sent(), 0);
    }

    private static void devicesOfNoSuchVersion() {
        Due.about("17: false: no such VERSION");
        PatchBench bench = new PatchBench();
        Due.no("none is there", bench.fleet(0, 0));
        Fill.version(bench, 2, SIXTY);
        for (int v : new int[] {LEAST, -2, -1, 0, 1, 3, 4, 5, 6, MOST}) {
            Due.no("fleet(" + v + ", 0)", bench.fleet(v, 0));
            Due.no("fleet(" + v + ", 1)", bench.fleet(v, 1));
        }
        Fill.version(bench, 0, SIXTY);
        Due.same("those that were refused aren't there", bench.sent(), 0);
        Due.yes("fleet(0, 1)", bench.fleet(0, 1));
    }

    private static void refusedNumberStays() {
        Due.about("17: false: the number stays");
        PatchBench bench = shifts(1);
        bench.fleet(0, 5);
        Due.no("fleet(0, -1)", bench.fleet(0, -1));
        Due.same("sent()", bench.sent(), 315);
        Due.no("fleet(0, 1001)", bench.fleet(0, 1001));
        Due.same("sent()", bench.sent(), 315);
    }

    private static void numberInPlaceOfWhatWas() {
        Due.about("17: So many are in THE FLEET: not so many more");
        PatchBench bench = shifts(1);
        bench.fleet(0, 5);
        Due.yes("fleet(0, 3)", bench.fleet(0, 3));
        Due.same("sent()", bench.sent(), 189);
        Fill.version(bench, 0, 1, 2, 3);
        Due.same("sent(), when VERSION 0 is another one", bench.sent(), 189);
    }

    private static void noSuchPair() {
        Due.about("18: false, doing nothing: no such pair (a below b)");
        PatchBench bench = shifts(4);
        for (boolean is : new boolean[] {true, false}) {
            for (int a = 0; a < 5; a++) {
                for (int b = 0; b <= a; b++) {
                    Due.no("hold(" + a + ", " + b + ", " + is + ")", bench.hold(a, b, is));
                }
                for (int v : new int[] {LEAST, -2, -1, 5, 6, MOST}) {
                    Due.no("hold(" + a + ", " + v + ", " + is + ")", bench.hold(a, v, is));
                    Due.no("hold(" + v + ", " + a + ", " + is + ")", bench.hold(v, a, is));
                    Due.no("hold(" + v + ", " + v + ", " + is + ")", bench.hold(v, v, is));
                }
            }
            Due.no("hold(-1, 5, " + is + ")", bench.hold(-1, 5, is));
        }
        for (int[] pair : PAIRS) {
            Due.no("none is held", bench.hold(pair[0], pair[1], false));
        }
    }

    private static void pairOfNoSuchVersions() {
        Due.about("18: no such pair: pairs a, b of VERSIONS");
        PatchBench bench = new PatchBench();
        Due.no("none is there", bench.hold(0, 1, true));
        Fill.version(bench, 0, SIXTY);
        Fill.version(bench, 2, SIXTY);
        Fill.version(bench, 4, SIXTY);
        for (int[] pair : PAIRS) {
            boolean isThere = pair[0] % 2 == 0 && pair[1] % 2 == 0;
            String call = "hold(" + pair[0] + ", " + pair[1] + ", true)";
            Due.same(call, bench.hold(pair[0], pair[1], true) ? 1 : 0, isThere ? 1 : 0);
        }
        Fill.version(bench, 1, SIXTY);
        Due.no("the refused one isn't held", bench.hold(0, 1, false));
    }

    private static void pairsOfAllNumbers() {
        Due.about("18: A PATCH is held or not: true");
        for (int[] held : PAIRS) {
            PatchBench bench = shifts(4);
            Due.yes("hold(" + held[0] + ", " + held[1] + ", true)", bench.hold(held[0], held[1], true));
            for (int[] pair : PAIRS) {
                String call = "hold(" + pair[0] + ", " + pair[1] + ", false)";
                Due.same(call, bench.hold(pair[0], pair[1], false) ? 1 : 0, pair == held ? 1 : 0);
            }
        }
    }

    private static void heldOrNotAlready() {
        Due.about("18: false, doing nothing: it's so");
        PatchBench bench = shifts(1);
        bench.fleet(0, 1);
        Due.no("not held", bench.hold(0, 1, false));
        Due.same("sent()", bench.sent(), 63);
        Due.yes("hold", bench.hold(0, 1, true));
        Due.no("held", bench.hold(0, 1, true));
        Due.same("sent()", bench.sent(), 8);
        Due.yes("no more", bench.hold(0, 1, false));
        Due.no("not held", bench.hold(0, 1, false));
        Due.same("sent()", bench.sent(), 63);
    }

    private static void sentWithoutVersions() {
        Due.about("19: NONE: no VERSION is there");
        PatchBench bench = new PatchBench();
        Due.same("sent()", bench.sent(), -1);
        bench.feed(1, 2, 3, 4, 5);
        bench.version(0, 0);
        Due.same("sent()", bench.sent(), -1);
        bench.version(0, 1);
        Due.same("sent()", bench.sent(), 0);
    }

    private static void sentOfOneVersion() {
        Due.about("19: SENT of one VERSION alone");
        for (int v = 0; v < 5; v++) {
            PatchBench bench = new PatchBench();
            Fill.version(bench, v, SIXTY);
            Due.yes("fleet(" + v + ", 1000)", bench.fleet(v, 1000));
            Due.same("sent()", bench.sent(), 0);
            bestIs(bench, 3, 0);
        }
    }

    private static void greatestVersionsOwnDevices() {
        Due.about("SENT: DEVICES of the greatest VERSION are sent nothing");
        PatchBench bench = shifts(4);
        devices(bench, 0, 0, 0, 0, 1000);
        Due.same("sent()", bench.sent(), 0);
        bench.fleet(3, 1);
        Due.same("sent()", bench.sent(), 63);
    }

    private static void greatestVersionThereIs() {
        Due.about("all to become the greatest VERSION there is");
        PatchBench bench = new PatchBench();
        Fill.version(bench, 1, SIXTY);
        bench.fleet(1, 2);
        Due.same("1 alone", bench.sent(), 0);
        Fill.version(bench, 0, Fill.shifted(SIXTY, 1));
        bench.fleet(0, 3);
        Due.same("0 to 1", bench.sent(), 3 * 63);
        bench.hold(0, 1, true);
        Due.same("0 to 1 by a PATCH", bench.sent(), 3 * 8);
        // The greatest is the one of the greatest number, however few its bytes are.
        Fill.version(bench, 3, alien(0, 10));
        Due.same("both to 3", bench.sent(), 5 * 13);
        Fill.version(bench, 3, alien(0, 120));
        Due.same("both to 3, a longer one", bench.sent(), 5 * 123);
    }

    private static void wholeAtOnce() {
        Due.about("the whole of the greatest VERSION (3 and its bytes) at once");
        for (int n : new int[] {1, 119, 120}) {
            PatchBench bench = new PatchBench();
            Fill.version(bench, 0, SIXTY);
            Fill.version(bench, 4, alien(0, n));
            bench.fleet(0, 1);
            Due.same("sent() of " + n, bench.sent(), 3 + n);
        }
    }

    private static void patchesOneBehindTheOther() {
        Due.about("PATCHES that are held, one behind the other");
        PatchBench bench = shifts(4);
        devices(bench, 1, 10, 100, 1000, 7);
        for (int v = 0; v < 4; v++) {
            bench.hold(v, v + 1, true);
        }
        Due.same("four, three, two, one", bench.sent(), 32 + 240 + 1600 + 8000);
        bench.hold(0, 2, true);
        Due.same("a way of three", bench.sent(), 24 + 240 + 1600 + 8000);
        bench.hold(1, 4, true);
        Due.same("a way of two: 0-1, 1-4", bench.sent(), 16 + 80 + 1600 + 8000);
        bench.hold(0, 4, true);
        Due.same("one", bench.sent(), 8 + 80 + 1600 + 8000);
    }

    private static void waysThatEndShort() {
        Due.about("a DEVICE goes to the greatest VERSION: PATCHES that do not come there are of no use");
        PatchBench bench = shifts(4);
        devices(bench, 1, 1, 1, 1, 1);
        bench.hold(0, 1, true);
        bench.hold(1, 2, true);
        bench.hold(0, 3, true);
        Due.same("sent()", bench.sent(), 4 * 63);
        bench.hold(3, 4, true);
        Due.same("sent()", bench.sent(), 16 + 63 + 63 + 8);
    }

    private static void wholeIfCheaper() {
        Due.about("the cheapest way");
        PatchBench bench = new PatchBench();
        Fill.version(bench, 0, SIXTY);
        Fill.version(bench, 1, alien(0, 40));
        bench.fleet(0, 1);
        bench.hold(0, 1, true);
        Due.same("the PATCH is dearer", bench.cost(0, 1), 45);
        Due.same("the whole", bench.sent(), 43);
        Fill.version(bench, 2, base(0, 4));
        bench.hold(0, 2, true);
        Due.same("the PATCH costs as much", bench.cost(0, 2), 7);
        Due.same("either one", bench.sent(), 7);
        Fill.version(bench, 2, base(0, 5));
        Due.same("the PATCH is cheaper", bench.sent(), 7);
    }

    private static void mostThatCanBeSent() {
        Due.about("SENT: the sum of costs");
        PatchBench bench = new PatchBench();
        for (int v = 0; v < 5; v++) {
            Fill.version(bench, v, Fill.scattered(900 + v, 120));
        }
        devices(bench, 1000, 1000, 1000, 1000, 1000);
        Due.same("sent()", bench.sent(), 4 * 1000 * 123);
        Due.same("best(3, 0)", bench.best(3, 0), 4 * 1000 * 123);
        Due.same("best(3, 2)", bench.best(3, 2), 0);
    }

    private static void bestOfNoSuchK() {
        Due.about("20: NONE: not as told: k (0 to 3)");
        PatchBench bench = shifts(4);
        devices(bench, 1, 1, 1, 1, 1);
        for (int k : new int[] {LEAST, -2, -1, 4, 5, 10, MOST}) {
            for (int what = 0; what <= 2; what++) {
                Due.same("best(" + k + ", " + what + ")", bench.best(k, what), -1);
            }
        }
    }

    private static void bestOfNoSuchWhat() {
        Due.about("20: NONE: not as told: what (0 to 2)");
        PatchBench bench = shifts(4);
        devices(bench, 1, 1, 1, 1, 1);
        for (int what : new int[] {LEAST, -2, -1, 3, 4, MOST}) {
            for (int k = 0; k <= 3; k++) {
                Due.same("best(" + k + ", " + what + ")", bench.best(k, what), -1);
            }
        }
    }

    private static void bestWithoutVersions() {
        Due.about("20: NONE: no VERSION is there");
        PatchBench bench = new PatchBench();
        for (int k = 0; k <= 3; k++) {
            for (int what = 0; what <= 2; what++) {
                Due.same("best(" + k + ", " + what + ")", bench.best(k, what), -1);
            }
        }
    }

    private static void bestOfNone() {
        Due.about("BEST of k (0)");
        PatchBench bench = shifts(4);
        devices(bench, 1, 2, 3, 4, 5);
        bench.hold(0, 4, true);
        bestIs(bench, 0, 10 * 63);
    }

    private static void kOrFewer() {
        Due.about("the k or fewer PATCHES");
        PatchBench bench = shifts(4);
        devices(bench, 4, 3, 2, 1, 0);
        bestIs(bench, 1, 4 * 8 + 6 * 63, 3);
        bestIs(bench, 2, 7 * 8 + 3 * 63, 3, 6);
        bestIs(bench, 3, 9 * 8 + 63, 3, 6, 8);
        PatchBench two = shifts(1);
        two.fleet(0, 1);
        bestIs(two, 3, 8, 0);
    }

    private static void fewestOfSeveral() {
        Due.about("of several sets the fewest");
        PatchBench bench = shifts(4);
        bestIs(bench, 3, 0);
        devices(bench, 0, 0, 1, 0, 0);
        bestIs(bench, 1, 8, 8);
        bestIs(bench, 2, 8, 8);
        bestIs(bench, 3, 8, 8);
        // A PATCH that costs as much as the whole is of no use.
        PatchBench alike = new PatchBench();
        Fill.version(alike, 0, SIXTY);
        Fill.version(alike, 1, base(0, 4));
        alike.fleet(0, 1000);
        bestIs(alike, 3, 7000);
    }

    private static void leastFirstOne() {
        Due.about("of these by numbers of pairs the least first one");
        PatchBench bench = shifts(4);
        devices(bench, 1, 1, 1, 1, 0);
        bestIs(bench, 1, 8 + 3 * 63, 3);
        devices(bench, 0, 1, 1, 1, 0);
        bestIs(bench, 1, 8 + 2 * 63, 6);
        devices(bench, 0, 0, 1, 1, 0);
        bestIs(bench, 1, 8 + 63, 8);
    }

    private static void leastSecondOne() {
        Due.about("then second");
        PatchBench bench = shifts(4);
        devices(bench, 9, 1, 1, 1, 0);
        bestIs(bench, 2, 80 + 2 * 63, 3, 6);
        devices(bench, 9, 0, 1, 1, 0);
        bestIs(bench, 2, 80 + 63, 3, 8);
    }

    private static void leastThirdOne() {
        Due.about("then third");
        PatchBench bench = shifts(4);
        devices(bench, 9, 9, 1, 1, 0);
        bestIs(bench, 3, 8 * 19 + 63, 3, 6, 8);
        devices(bench, 0, 1, 1, 1, 0);
        bestIs(bench, 3, 24, 6, 8, 9);
    }

    /**
     * VERSION x comes to 4 cheaper by way of 3 (18 and 15) than at once (39), as the new bytes of 3 come
     * three times in 4; y and z come to 4 by a SHIFT (8). The whole costs 63.
     */
    private static PatchBench dearAtOnce(int x, int y, int z) {
        int[] added = alien(0, 10);
        int[] old = base(0, 30);
        int[] last = Fill.joined(added, old, added, added);
        PatchBench bench = new PatchBench();
        Fill.version(bench, x, old);
        Fill.version(bench, y, Fill.shifted(last, 9));
        Fill.version(bench, z, Fill.shifted(last, 50));
        Fill.version(bench, 3, Fill.joined(old, added));
        Fill.version(bench, 4, last);
        Due.same("cost(x, 3)", bench.cost(x, 3), 18);
        Due.same("cost(3, 4)", bench.cost(3, 4), 15);
        Due.same("cost(x, 4)", bench.cost(x, 4), 39);
        return bench;
    }

    private static void firstOneAheadOfTheOthers() {
        Due.about("the least first one, then second: whatever comes behind it");
        // 15 at 33, 5 at 15 and 6 at 63 are as much as 15 at 39, 6 at 8 and 5 at 63.
        PatchBench bench = dearAtOnce(0, 1, 2);
        devices(bench, 15, 6, 0, 5, 0);
        bestIs(bench, 2, 948, 2, 9);
        bench.fleet(2, 900);
        bestIs(bench, 3, 948 + 900 * 8, 2, 8, 9);
        PatchBench other = dearAtOnce(1, 2, 0);
        devices(other, 900, 15, 6, 5, 0);
        bestIs(other, 3, 948 + 900 * 8, 3, 5, 9);
    }

    private static void numbersOfPairs() {
        Due.about("20: as a sum of 2 to the numbers of the pairs (0-1 is 0, 0-2 is 1, .. , 3-4 is 9)");
        for (int pair = 0; pair < PAIRS.length; pair++) {
            PatchBench bench = shifts(PAIRS[pair][1]);
            bench.fleet(PAIRS[pair][0], 1);
            bestIs(bench, 1, 8, pair);
        }
    }

    private static void heldOnesStay() {
        Due.about("20: (What is held stays.)");
        PatchBench bench = shifts(4);
        devices(bench, 4, 3, 2, 1, 0);
        bench.hold(1, 4, true);
        bench.hold(0, 1, true);
        int sent = bench.sent();
        Due.same("sent()", sent, 4 * 16 + 3 * 8 + 3 * 63);
        for (int k = 0; k <= 3; k++) {
            bench.best(k, 2);
            Due.same("sent() behind best(" + k + ", 2)", bench.sent(), sent);
        }
        for (int pair = 0; pair < PAIRS.length; pair++) {
            boolean wasHeld = bench.hold(PAIRS[pair][0], PAIRS[pair][1], false);
            Due.same("pair " + pair + " was held", wasHeld ? 1 : 0, pair == 0 || pair == 6 ? 1 : 0);
        }
    }

    private static void heldOnesDoNotCount() {
        Due.about("the k or fewer PATCHES to be held: what is held now is not among them");
        PatchBench bench = shifts(4);
        devices(bench, 4, 3, 2, 1, 0);
        for (int[] pair : PAIRS) {
            bench.hold(pair[0], pair[1], true);
        }
        Due.same("sent()", bench.sent(), 80);
        bestIs(bench, 0, 630);
        bestIs(bench, 1, 4 * 8 + 6 * 63, 3);
        bestIs(bench, 3, 9 * 8 + 63, 3, 6, 8);
    }
}
