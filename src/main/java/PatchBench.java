/**
 * A bench for small updates: patches of least cost between versions, patches melted into one, a
 * device that is written over in place and outlives cuts of its power, and the patches that a fleet
 * should keep. The promises that the methods name are those of the document.
 */
public final class PatchBench {
    public static final int NONE = -1;

    private static final int VERSIONS = 5;
    private static final int MOST_BYTES = 120;
    private static final int TAPE_ROOM = 200;
    private static final int FEED_BYTES = 20;
    private static final int CHECK_MODULUS = 65521;

    private static final int COPY = 0;
    private static final int SHIFT = 1;
    private static final int ADD = 2;
    private static final int COPY_COST = 4;
    private static final int SHIFT_COST = 5;
    private static final int ADD_COST = 1;
    private static final int PATCH_COST = 3;
    private static final int WHOLE_COST = 3;
    private static final int MOST_ADDED = 30;
    private static final int ABOVE_ANY_COST = 1000000;

    private static final int UP = 0;
    private static final int DOWN = 1;
    private static final int BETTER = 2;
    private static final int NOT_NOW = -2;
    private static final int REFUSED = -3;
    private static final int MOST_WRITES = 1000;
    private static final int FIRST_AREA_BYTE = 10;

    private static final int MOST_DEVICES = 1000;
    private static final int MOST_HELD = 3;
    private static final int PAIRS = 10;
    private static final int ALL_PAIRS = (1 << PAIRS) - 1;
    private static final int[] PAIR_FROM = {0, 0, 0, 0, 1, 1, 1, 2, 2, 3};
    private static final int[] PAIR_TO = {1, 2, 3, 4, 2, 3, 4, 3, 4, 4};

    private final Bytes tape = new Bytes(TAPE_ROOM);
    private final Shelf shelf = new Shelf();
    private final Trace trace = new Trace();
    private final Trace earlierTrace = new Trace();
    private final Patch meltedPatch = new Patch();
    private final Device theDevice = new Device();
    private final Fleet theFleet = new Fleet();

    /** Promise 1. */
    public PatchBench() {
    }

    /** Promise 2. */
    public int feed(int a, int b, int c, int d, int e) {
        if (tape.count + FEED_BYTES > TAPE_ROOM) {
            return NONE;
        }
        tape.appendFour(a);
        tape.appendFour(b);
        tape.appendFour(c);
        tape.appendFour(d);
        tape.appendFour(e);
        return tape.count;
    }

    /** Promise 3. */
    public int version(int v, int n) {
        if (v < 0 || v >= VERSIONS || n < 1 || n > MOST_BYTES || n > tape.count) {
            return NONE;
        }
        shelf.replace(v, tape, n);
        tape.count = 0;
        return n;
    }

    /** Promise 4. */
    public int told(int v, int i) {
        if (!shelf.has(v)) {
            return NONE;
        }
        Bytes bytes = shelf.bytesOf(v);
        return i == NONE ? bytes.count : bytes.at(i);
    }

    /** Promise 5. */
    public int check(int v) {
        return shelf.has(v) ? shelf.bytesOf(v).checksum() : NONE;
    }

    /** Promise 6. */
    public int cost(int a, int b) {
        return shelf.priceOf(a, b);
    }

    /** Promise 7. */
    public int step(int a, int b, int k, int what) {
        if (!shelf.has(a) || !shelf.has(b)) {
            return NONE;
        }
        return shelf.patchOf(a, b).tell(k, what);
    }

    /** Promise 8. */
    public int melt(int a, int b, int c) {
        if (!shelf.has(a) || !shelf.has(b) || !shelf.has(c)) {
            return NONE;
        }
        earlierTrace.follow(shelf.patchOf(a, b), shelf.bytesOf(b));
        trace.follow(shelf.patchOf(b, c), shelf.bytesOf(c));
        trace.reachThrough(earlierTrace);
        trace.gather(meltedPatch);
        return meltedPatch.price;
    }

    /** Promise 9. */
    public int melted(int k, int what) {
        // A patch that was made has a step at least, as no version is empty.
        return meltedPatch.steps == 0 ? NONE : meltedPatch.tell(k, what);
    }

    /** Promise 10. */
    public int room(int a, int b, int what) {
        if (!shelf.has(a) || !shelf.has(b) || what < UP || what > BETTER) {
            return NONE;
        }
        trace.follow(shelf.patchOf(a, b), shelf.bytesOf(b));
        if (what == BETTER) {
            return Math.min(trace.countKept(UP), trace.countKept(DOWN));
        }
        return trace.countKept(what);
    }

    /** Promise 11. */
    public boolean install(int v) {
        if (!shelf.has(v)) {
            return false;
        }
        theDevice.load(shelf.bytesOf(v));
        return true;
    }

    /** Promise 12. */
    public int update(int a, int b) {
        if (!shelf.has(a) || !shelf.has(b)) {
            return NONE;
        }
        if (theDevice.begun) {
            return NOT_NOW;
        }
        if (!theDevice.fits(shelf.bytesOf(a))) {
            return REFUSED;
        }
        trace.follow(shelf.patchOf(a, b), shelf.bytesOf(b));
        theDevice.begin(trace);
        return theDevice.writesLeft();
    }

    /** Promise 13. */
    public int write(int n) {
        if (n < 0 || n > MOST_WRITES) {
            return NONE;
        }
        if (!theDevice.begun || theDevice.unpowered) {
            return NOT_NOW;
        }
        return theDevice.makeWrites(n);
    }

    /** Promise 14. */
    public boolean cut() {
        if (!theDevice.begun || theDevice.unpowered) {
            return false;
        }
        theDevice.unpowered = true;
        return true;
    }

    /** Promise 15. */
    public int on() {
        if (!theDevice.unpowered) {
            return NOT_NOW;
        }
        theDevice.resume();
        return theDevice.writesLeft();
    }

    /** Promise 16. */
    public int device(int what) {
        return what < FIRST_AREA_BYTE ? theDevice.tell(what) : theDevice.areaByte(what - FIRST_AREA_BYTE);
    }

    /** Promise 17. */
    public boolean fleet(int v, int many) {
        if (!shelf.has(v) || many < 0 || many > MOST_DEVICES) {
            return false;
        }
        theFleet.setDevices(v, many);
        return true;
    }

    /** Promise 18. */
    public boolean hold(int a, int b, boolean is) {
        if (!shelf.has(a) || !shelf.has(b) || a >= b) {
            return false;
        }
        return theFleet.holdPair(a, b, is);
    }

    /** Promise 19. */
    public int sent() {
        if (shelf.greatest() == NONE) {
            return NONE;
        }
        theFleet.learnPrices(shelf, theFleet.heldPairs);
        return theFleet.sentWith(theFleet.heldPairs);
    }

    /** Promise 20. */
    public int best(int k, int what) {
        if (k < 0 || k > MOST_HELD || what < 0 || what > 2 || shelf.greatest() == NONE) {
            return NONE;
        }
        theFleet.learnPrices(shelf, k == 0 ? 0 : ALL_PAIRS);
        theFleet.choose(k);
        switch (what) {
            case 0:
                return theFleet.leastSent;
            case 1:
                return Integer.bitCount(theFleet.bestPairs);
            default:
                return theFleet.bestPairs;
        }
    }

    private static int stepPrice(int kind, int n) {
        switch (kind) {
            case COPY:
                return COPY_COST;
            case SHIFT:
                return SHIFT_COST;
            default:
                return ADD_COST + n;
        }
    }

    /** A row of bytes 0 to 255 that fills up from the front. */
    private static final class Bytes {
        private final int[] values;
        private int count;

        Bytes(int room) {
            values = new int[Math.max(room, 0)];
        }

        int at(int i) {
            return i >= 0 && i < count && i < values.length ? values[i] : NONE;
        }

        void appendFour(int number) {
            for (int bits = 24; bits >= 0; bits -= 8) {
                if (count < values.length) {
                    values[count] = (number >>> bits) & 255;
                    count++;
                }
            }
        }

        /** Nothing of what was stays: a device's area can be read behind its bytes too. */
        void takeFirst(Bytes other, int n) {
            int taken = Math.max(0, Math.min(n, Math.min(values.length, other.count)));
            System.arraycopy(other.values, 0, values, 0, taken);
            for (int i = taken; i < values.length; i++) {
                values[i] = 0;
            }
            count = taken;
        }

        int checksum() {
            int sum = 1;
            for (int i = 0; i < count; i++) {
                sum = (sum * 31 + values[i] + 1) % CHECK_MODULUS;
            }
            return sum;
        }
    }

    /** The steps from an old version to a new one, in the order of the new bytes. */
    private static final class Patch {
        private final int[] kinds = new int[MOST_BYTES];
        private final int[] lengths = new int[MOST_BYTES];
        private final int[] places = new int[MOST_BYTES];
        private final int[] shifts = new int[MOST_BYTES];
        private int steps;
        private int price;

        void clear() {
            steps = 0;
            price = PATCH_COST;
        }

        void append(int kind, int n, int p, int d) {
            if (steps >= MOST_BYTES) {
                return;
            }
            kinds[steps] = kind;
            lengths[steps] = n;
            places[steps] = p;
            shifts[steps] = d;
            steps++;
            price += stepPrice(kind, n);
        }

        int tell(int k, int what) {
            if (k == NONE) {
                return steps;
            }
            if (k < 0 || k >= steps) {
                return NONE;
            }
            switch (what) {
                case 0:
                    return kinds[k];
                case 1:
                    return lengths[k];
                case 2:
                    return places[k];
                case 3:
                    return shifts[k];
                default:
                    return NONE;
            }
        }
    }

    /**
     * Finds the patch of least cost, from the last new byte to the first. The least cost of a rest
     * never rises when the rest loses its first byte (its first step loses that byte too), so the
     * longest copy at a place is the cheapest copy there, and the longest shift the cheapest shift.
     */
    private static final class Planner {
        private final int[] runs = new int[MOST_BYTES];
        private final int[] gaps = new int[MOST_BYTES];
        private final int[] least = new int[MOST_BYTES + 1];
        private final int[] kinds = new int[MOST_BYTES];
        private final int[] lengths = new int[MOST_BYTES];
        private final int[] places = new int[MOST_BYTES];
        private final int[] shifts = new int[MOST_BYTES];
        private int copyRun;
        private int copyFrom;
        private int shiftRun;
        private int shiftFrom;

        void plan(Bytes old, Bytes fresh, Patch patch) {
            least[fresh.count] = 0;
            for (int i = fresh.count - 1; i >= 0; i--) {
                findRuns(old, fresh, i);
                chooseStep(i, fresh.count);
            }
            patch.clear();
            int next = 0;
            for (int i = 0; i < fresh.count; i++) {
                if (i == next) {
                    patch.append(kinds[i], lengths[i], places[i], shifts[i]);
                    next = i + lengths[i];
                }
            }
        }

        /**
         * A run at p: how many bytes from new byte i and old byte p on differ by the same gap. The
         * row of i is written over that of i + 1 with p rising, for a run grows out of p + 1's.
         */
        private void findRuns(Bytes old, Bytes fresh, int i) {
            boolean isLast = i + 1 >= fresh.count;
            int value = fresh.values[i];
            copyRun = 0;
            shiftRun = 0;
            for (int p = 0; p < old.count; p++) {
                int gap = (value - old.values[p]) & 255;
                boolean goesOn = !isLast && p + 1 < old.count && gaps[p + 1] == gap;
                int run = goesOn ? runs[p + 1] + 1 : 1;
                gaps[p] = gap;
                runs[p] = run;
                if (gap == 0 && run > copyRun) {
                    copyRun = run;
                    copyFrom = p;
                } else if (gap != 0 && run > shiftRun) {
                    shiftRun = run;
                    shiftFrom = p;
                }
            }
        }

        /** What is tried later wins if alike, so the kinds are tried from the least wanted on. */
        private void chooseStep(int i, int count) {
            least[i] = ABOVE_ANY_COST;
            int mostAdded = Math.min(MOST_ADDED, count - i);
            for (int n = 1; n <= mostAdded; n++) {
                tryStep(i, ADD, n, i, 0);
            }
            if (shiftRun > 0) {
                tryStep(i, SHIFT, shiftRun, shiftFrom, gaps[shiftFrom]);
            }
            if (copyRun > 0) {
                tryStep(i, COPY, copyRun, copyFrom, 0);
            }
        }

        private void tryStep(int i, int kind, int n, int p, int d) {
            int total = stepPrice(kind, n) + least[i + n];
            if (total <= least[i]) {
                least[i] = total;
                kinds[i] = kind;
                lengths[i] = n;
                places[i] = p;
                shifts[i] = d;
            }
        }
    }

    /** The versions, and the patches among them that were asked for. */
    private static final class Shelf {
        private final Bytes[] versions = new Bytes[VERSIONS];
        private final Patch[] patches = new Patch[VERSIONS * VERSIONS];
        private final boolean[] planned = new boolean[VERSIONS * VERSIONS];
        private final Planner planner = new Planner();

        Shelf() {
            for (int v = 0; v < VERSIONS; v++) {
                versions[v] = new Bytes(MOST_BYTES);
            }
        }

        boolean has(int v) {
            return v >= 0 && v < VERSIONS && versions[v].count > 0;
        }

        /** Asked only behind has(v). */
        Bytes bytesOf(int v) {
            return versions[v];
        }

        int greatest() {
            for (int v = VERSIONS - 1; v >= 0; v--) {
                if (has(v)) {
                    return v;
                }
            }
            return NONE;
        }

        void replace(int v, Bytes source, int n) {
            versions[v].takeFirst(source, n);
            for (int other = 0; other < VERSIONS; other++) {
                planned[v * VERSIONS + other] = false;
                planned[other * VERSIONS + v] = false;
            }
        }

        /** Asked only behind has(a) and has(b). A pair's patch is one object, planned anew in place. */
        Patch patchOf(int a, int b) {
            int at = a * VERSIONS + b;
            if (patches[at] == null) {
                patches[at] = new Patch();
            }
            if (!planned[at]) {
                planner.plan(versions[a], versions[b], patches[at]);
                planned[at] = true;
            }
            return patches[at];
        }

        int priceOf(int a, int b) {
            return has(a) && has(b) ? patchOf(a, b).price : NONE;
        }
    }

    /**
     * What each new byte is made of: an old byte's place and what is added to it, or no place and
     * the told byte itself.
     */
    private static final class Trace {
        private final int[] places = new int[MOST_BYTES];
        private final int[] plus = new int[MOST_BYTES];
        private final boolean[] kept = new boolean[MOST_BYTES];
        private int count;

        void follow(Patch patch, Bytes fresh) {
            count = 0;
            for (int k = 0; k < patch.steps; k++) {
                boolean isAdd = patch.kinds[k] == ADD;
                for (int j = 0; j < patch.lengths[k] && count < MOST_BYTES; j++) {
                    places[count] = isAdd ? NONE : patch.places[k] + j;
                    plus[count] = isAdd ? fresh.at(count) : patch.shifts[k];
                    count++;
                }
            }
        }

        void take(Trace other) {
            System.arraycopy(other.places, 0, places, 0, MOST_BYTES);
            System.arraycopy(other.plus, 0, plus, 0, MOST_BYTES);
            count = other.count;
        }

        /** One sum serves both cases: a shift upon a shift, and a shift upon a told byte. */
        void reachThrough(Trace earlier) {
            for (int q = 0; q < count; q++) {
                int between = places[q];
                if (between >= 0 && between < earlier.count) {
                    places[q] = earlier.places[between];
                    plus[q] = (plus[q] + earlier.plus[between]) & 255;
                }
            }
        }

        void gather(Patch patch) {
            patch.clear();
            int next = 0;
            for (int q = 0; q < count; q++) {
                if (q == next) {
                    int n = places[q] == NONE ? addedFrom(q) : alikeFrom(q);
                    if (places[q] == NONE) {
                        patch.append(ADD, n, q, 0);
                    } else {
                        patch.append(plus[q] == 0 ? COPY : SHIFT, n, places[q], plus[q]);
                    }
                    next = q + n;
                }
            }
        }

        private int addedFrom(int q) {
            int n = 1;
            while (n < MOST_ADDED && q + n < count && places[q + n] == NONE) {
                n++;
            }
            return n;
        }

        private int alikeFrom(int q) {
            int n = 1;
            while (q + n < count && places[q + n] == places[q] + n && plus[q + n] == plus[q]) {
                n++;
            }
            return n;
        }

        /** Finds which old bytes are kept on this way too, for isKept(). */
        int countKept(int way) {
            for (int p = 0; p < MOST_BYTES; p++) {
                kept[p] = false;
            }
            int many = 0;
            for (int q = 0; q < count; q++) {
                int p = places[q];
                if (p >= 0 && p < MOST_BYTES && !kept[p] && comesTooLate(p, q, way)) {
                    kept[p] = true;
                    many++;
                }
            }
            return many;
        }

        /** A shift at its own place is too late as well: made twice after a cut, it would shift twice. */
        private boolean comesTooLate(int p, int q, int way) {
            if (p == q) {
                return plus[q] != 0;
            }
            return way == UP ? q > p : q < p;
        }

        boolean isKept(int p) {
            return p >= 0 && p < MOST_BYTES && kept[p];
        }
    }

    /** The device, with the update that is begun on it. */
    private static final class Device {
        private final Bytes area = new Bytes(MOST_BYTES);
        private final Trace plan = new Trace();
        private final int[] toKeep = new int[MOST_BYTES];
        private final int[] aside = new int[MOST_BYTES];
        private int toKeepCount;
        private int way;
        private int nextWrite;
        private int mark;
        private int writesEver;
        private boolean begun;
        private boolean unpowered;

        void load(Bytes bytes) {
            area.takeFirst(bytes, bytes.count);
            endUpdate();
        }

        boolean fits(Bytes base) {
            return area.count == base.count && area.checksum() == base.checksum();
        }

        /** Takes a copy of the trace, as versions may be replaced while the update is under way. */
        void begin(Trace trace) {
            plan.take(trace);
            way = plan.countKept(DOWN) < plan.countKept(UP) ? DOWN : UP;
            plan.countKept(way);
            toKeepCount = 0;
            for (int p = 0; p < MOST_BYTES; p++) {
                if (plan.isKept(p)) {
                    toKeep[toKeepCount] = p;
                    toKeepCount++;
                }
            }
            nextWrite = 0;
            mark = NONE;
            begun = true;
        }

        private void endUpdate() {
            begun = false;
            unpowered = false;
        }

        private int allWrites() {
            return toKeepCount + 1 + 2 * plan.count + 1;
        }

        int writesLeft() {
            return begun ? allWrites() - nextWrite : 0;
        }

        int makeWrites(int n) {
            int made = 0;
            while (made < n && begun) {
                makeNextWrite();
                made++;
            }
            writesEver += made;
            return made;
        }

        private void makeNextWrite() {
            int behindKept = nextWrite - toKeepCount;
            if (behindKept < 0) {
                int p = toKeep[nextWrite];
                aside[p] = area.values[p];
            } else if (nextWrite + 1 >= allWrites()) {
                area.count = plan.count;
                endUpdate();
            } else if (behindKept % 2 == 0) {
                mark = behindKept / 2;
            } else {
                writeNewByte(behindKept / 2);
            }
            nextWrite++;
        }

        private void writeNewByte(int done) {
            int q = way == UP ? done : plan.count - 1 - done;
            if (q < 0 || q >= plan.count) {
                return;
            }
            area.values[q] = (oldByte(plan.places[q]) + plan.plus[q]) & 255;
        }

        private int oldByte(int p) {
            if (p < 0 || p >= MOST_BYTES) {
                return 0;
            }
            return plan.isKept(p) ? aside[p] : area.values[p];
        }

        void resume() {
            unpowered = false;
            nextWrite = mark == NONE ? 0 : toKeepCount + 1 + 2 * mark;
        }

        int tell(int what) {
            switch (what) {
                case 0:
                    return area.count;
                case 1:
                    return area.checksum();
                case 2:
                    return !begun ? 0 : unpowered ? 2 : 1;
                case 3:
                    return writesEver;
                case 4:
                    return begun ? Math.min(nextWrite, toKeepCount) : 0;
                case 5:
                    return begun ? mark : NONE;
                case 6:
                    return begun ? way : NONE;
                default:
                    return NONE;
            }
        }

        /** The whole area can be read, not only the bytes that the device holds. */
        int areaByte(int i) {
            return i >= 0 && i < MOST_BYTES ? area.values[i] : NONE;
        }
    }

    /** The fleet; a set of pairs is a sum of 2 to their numbers. */
    private static final class Fleet {
        private final int[] devices = new int[VERSIONS];
        private final int[] prices = new int[PAIRS];
        private final int[] ways = new int[VERSIONS];
        private int heldPairs;
        private int goal;
        private int wholePrice;
        private int leastSent;
        private int bestPairs;

        void setDevices(int v, int many) {
            devices[v] = many;
        }

        boolean holdPair(int a, int b, boolean is) {
            int bit = bitOf(a, b);
            if (bit == 0 || ((heldPairs & bit) != 0) == is) {
                return false;
            }
            heldPairs ^= bit;
            return true;
        }

        private static int bitOf(int a, int b) {
            for (int pair = 0; pair < PAIRS; pair++) {
                if (PAIR_FROM[pair] == a && PAIR_TO[pair] == b) {
                    return 1 << pair;
                }
            }
            return 0;
        }

        /** Only the pairs that will be asked for are priced: each price may want a patch planned. */
        void learnPrices(Shelf shelf, int pairs) {
            goal = shelf.greatest();
            wholePrice = goal == NONE ? 0 : WHOLE_COST + shelf.bytesOf(goal).count;
            for (int pair = 0; pair < PAIRS; pair++) {
                boolean isWanted = (pairs & (1 << pair)) != 0;
                prices[pair] = isWanted ? shelf.priceOf(PAIR_FROM[pair], PAIR_TO[pair]) : NONE;
            }
        }

        /** Pairs are taken from the last one on, so that the way from a pair's end is known. */
        int sentWith(int pairs) {
            for (int v = 0; v < VERSIONS; v++) {
                ways[v] = v == goal ? 0 : wholePrice;
            }
            for (int pair = PAIRS - 1; pair >= 0; pair--) {
                if ((pairs & (1 << pair)) != 0 && prices[pair] != NONE) {
                    int from = PAIR_FROM[pair];
                    ways[from] = Math.min(ways[from], prices[pair] + ways[PAIR_TO[pair]]);
                }
            }
            int sum = 0;
            for (int v = 0; v < VERSIONS; v++) {
                sum += devices[v] * ways[v];
            }
            return sum;
        }

        /** Sets come in the order of the document's preference, so only a lesser sum replaces one. */
        void choose(int k) {
            leastSent = sentWith(0);
            bestPairs = 0;
            for (int size = 1; size <= k; size++) {
                chooseOfSize(size);
            }
        }

        private void chooseOfSize(int size) {
            for (int first = 0; first < PAIRS; first++) {
                if (size == 1) {
                    consider(1 << first);
                }
                for (int second = first + 1; second < PAIRS && size > 1; second++) {
                    int two = 1 << first | 1 << second;
                    if (size == 2) {
                        consider(two);
                    }
                    for (int third = second + 1; third < PAIRS && size > 2; third++) {
                        consider(two | 1 << third);
                    }
                }
            }
        }

        private void consider(int pairs) {
            int sum = sentWith(pairs);
            if (sum < leastSent) {
                leastSent = sum;
                bestPairs = pairs;
            }
        }
    }
}
