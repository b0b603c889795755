import java.util.ArrayList;
import java.util.Arrays;
import java.util.HashMap;
import java.util.List;
import java.util.Map;
import java.util.TreeMap;

/** The document's words done the slow way: everything is tried, nothing is kept for later. */
final class Model {
    private record Step(int kind, int n, int p, int d) {
        int cost() {
            return kind == 0 ? 4 : kind == 1 ? 5 : 1 + n;
        }

        int tell(int what) {
            return switch (what) {
                case 0 -> kind;
                case 1 -> n;
                case 2 -> p;
                case 3 -> d;
                default -> -1;
            };
        }
    }

    /** A new byte: made of old byte p (or none, -1), by adding d. */
    private record Made(int p, int d) {
    }

    /** One WRITE: 'k'eep at, 'm'ark at, 'b'yte at, 'd'one. */
    private record Write(char kind, int at) {
    }

    private final List<Integer> tape = new ArrayList<>();
    private final int[][] versions = new int[5][];
    private List<Step> melted = null;
    private final int[] area = new int[120];
    private int holds = 0;
    private int ever = 0;
    private List<Write> writes = null;
    private List<Made> plan = null;
    private int at = 0;
    private boolean isCut = false;
    private boolean goesDown = false;
    private final Map<Integer, Integer> kept = new TreeMap<>();
    private final int[] devices = new int[5];
    private final boolean[][] held = new boolean[5][5];
    private final Map<String, List<Step>> known = new HashMap<>();

    private boolean is(int v) {
        return v >= 0 && v <= 4 && versions[v] != null;
    }

    int feed(int... numbers) {
        if (tape.size() > 180) {
            return -1;
        }
        for (int number : numbers) {
            for (int i = 3; i >= 0; i--) {
                tape.add((number >> 8 * i) & 0xFF);
            }
        }
        return tape.size();
    }

    int version(int v, int n) {
        if (v < 0 || v > 4 || n < 1 || n > 120 || n > tape.size()) {
            return -1;
        }
        versions[v] = tape.subList(0, n).stream().mapToInt(i -> i).toArray();
        tape.clear();
        return n;
    }

    int told(int v, int i) {
        if (!is(v)) {
            return -1;
        }
        return i == -1 ? versions[v].length : i >= 0 && i < versions[v].length ? versions[v][i] : -1;
    }

    private static int sum(int[] bytes, int n) {
        long sum = 1;
        for (int i = 0; i < n; i++) {
            sum = (sum * 31 + bytes[i] + 1) % 65521;
        }
        return (int) sum;
    }

    int check(int v) {
        return is(v) ? sum(versions[v], versions[v].length) : -1;
    }

    private static boolean makes(int[] old, int p, int[] fresh, int i, int n, int d) {
        if (p + n > old.length || i + n > fresh.length) {
            return false;
        }
        for (int j = 0; j < n; j++) {
            if ((old[p + j] + d) % 256 != fresh[i + j]) {
                return false;
            }
        }
        return true;
    }

    /** All steps that make new bytes from i on, the most wanted first. */
    private static List<Step> possible(int[] old, int[] fresh, int i) {
        List<Step> steps = new ArrayList<>();
        for (int kind = 0; kind < 2; kind++) {
            for (int n = Math.min(old.length, fresh.length - i); n >= 1; n--) {
                for (int p = 0; p + n <= old.length; p++) {
                    int d = Math.floorMod(fresh[i] - old[p], 256);
                    if ((d == 0) == (kind == 0) && makes(old, p, fresh, i, n, d)) {
                        steps.add(new Step(kind, n, p, d));
                    }
                }
            }
        }
        for (int n = Math.min(30, fresh.length - i); n >= 1; n--) {
            steps.add(new Step(2, n, i, 0));
        }
        return steps;
    }

    private List<Step> patch(int a, int b) {
        String name = Arrays.toString(versions[a]) + Arrays.toString(versions[b]);
        return known.computeIfAbsent(name, key -> plan(versions[a], versions[b]));
    }

    private static List<Step> plan(int[] old, int[] fresh) {
        int[] least = new int[fresh.length + 1];
        Step[] first = new Step[fresh.length];
        for (int i = fresh.length - 1; i >= 0; i--) {
            least[i] = Integer.MAX_VALUE;
            for (Step step : possible(old, fresh, i)) {
                if (step.cost() + least[i + step.n] < least[i]) {
                    least[i] = step.cost() + least[i + step.n];
                    first[i] = step;
                }
            }
        }
        List<Step> steps = new ArrayList<>();
        for (int i = 0; i < fresh.length; i += first[i].n) {
            steps.add(first[i]);
        }
        return steps;
    }

    private static int sum(List<Step> steps) {
        return 3 + steps.stream().mapToInt(Step::cost).sum();
    }

    int cost(int a, int b) {
        return is(a) && is(b) ? sum(patch(a, b)) : -1;
    }

    private static int tell(List<Step> steps, int k, int what) {
        if (k == -1) {
            return steps.size();
        }
        return k >= 0 && k < steps.size() ? steps.get(k).tell(what) : -1;
    }

    int step(int a, int b, int k, int what) {
        return is(a) && is(b) ? tell(patch(a, b), k, what) : -1;
    }

    private List<Made> made(int a, int b) {
        List<Made> all = new ArrayList<>();
        for (Step step : patch(a, b)) {
            for (int j = 0; j < step.n; j++) {
                all.add(step.kind == 2 ? new Made(-1, versions[b][all.size()]) : new Made(step.p + j, step.d));
            }
        }
        return all;
    }

    int melt(int a, int b, int c) {
        if (!is(a) || !is(b) || !is(c)) {
            return -1;
        }
        List<Made> first = made(a, b);
        List<Made> all = new ArrayList<>();
        for (Made made : made(b, c)) {
            if (made.p == -1) {
                all.add(made);
            } else {
                Made before = first.get(made.p);
                all.add(new Made(before.p, (before.d + made.d) % 256));
            }
        }
        melted = new ArrayList<>();
        for (int q = 0; q < all.size(); q++) {
            Made made = all.get(q);
            Step last = melted.isEmpty() ? null : melted.get(melted.size() - 1);
            int kind = made.p == -1 ? 2 : made.d == 0 ? 0 : 1;
            boolean joins = last != null && last.kind == kind
                && (kind == 2 ? last.n < 30 : last.p + last.n == made.p && last.d == made.d);
            if (joins) {
                melted.set(melted.size() - 1, new Step(kind, last.n + 1, last.p, last.d));
            } else {
                melted.add(kind == 2 ? new Step(2, 1, q, 0) : new Step(kind, 1, made.p, made.d));
            }
        }
        return sum(melted);
    }

    int melted(int k, int what) {
        return melted == null ? -1 : tell(melted, k, what);
    }

    private static List<Integer> kept(List<Made> all, boolean down) {
        List<Integer> kept = new ArrayList<>();
        for (int p = 0; p < 120; p++) {
            boolean must = false;
            for (int q = 0; q < all.size(); q++) {
                if (all.get(q).p == p) {
                    must |= down ? q < p : q > p;
                    must |= q == p && all.get(q).d != 0;
                }
            }
            if (must) {
                kept.add(p);
            }
        }
        return kept;
    }

    int room(int a, int b, int what) {
        if (!is(a) || !is(b) || what < 0 || what > 2) {
            return -1;
        }
        int up = kept(made(a, b), false).size();
        int down = kept(made(a, b), true).size();
        return what == 0 ? up : what == 1 ? down : Math.min(up, down);
    }

    boolean install(int v) {
        if (!is(v)) {
            return false;
        }
        for (int i = 0; i < 120; i++) {
            area[i] = i < versions[v].length ? versions[v][i] : 0;
        }
        holds = versions[v].length;
        forget();
        return true;
    }

    private void forget() {
        writes = null;
        plan = null;
        isCut = false;
        kept.clear();
    }

    int update(int a, int b) {
        if (!is(a) || !is(b)) {
            return -1;
        }
        if (writes != null) {
            return -2;
        }
        if (holds != versions[a].length || sum(area, holds) != check(a)) {
            return -3;
        }
        plan = made(a, b);
        goesDown = kept(plan, true).size() < kept(plan, false).size();
        writes = new ArrayList<>();
        for (int p : kept(plan, goesDown)) {
            writes.add(new Write('k', p));
        }
        writes.add(new Write('m', 0));
        for (int i = 0; i < plan.size(); i++) {
            writes.add(new Write('b', goesDown ? plan.size() - 1 - i : i));
            writes.add(new Write('m', i + 1));
        }
        writes.add(new Write('d', 0));
        at = 0;
        return writes.size();
    }

    int write(int n) {
        if (n < 0 || n > 1000) {
            return -1;
        }
        if (writes == null || isCut) {
            return -2;
        }
        int many = 0;
        while (many < n && writes != null) {
            Write write = writes.get(at++);
            many++;
            if (write.kind == 'k') {
                kept.put(write.at, area[write.at]);
            } else if (write.kind == 'b') {
                Made made = plan.get(write.at);
                int old = made.p == -1 ? 0 : kept.containsKey(made.p) ? kept.get(made.p) : area[made.p];
                area[write.at] = (old + made.d) % 256;
            } else if (write.kind == 'd') {
                holds = plan.size();
                forget();
            }
        }
        ever += many;
        return many;
    }

    private int latestMark() {
        for (int i = at - 1; i >= 0; i--) {
            if (writes.get(i).kind == 'm') {
                return i;
            }
        }
        return -1;
    }

    boolean cut() {
        if (writes == null || isCut) {
            return false;
        }
        isCut = true;
        return true;
    }

    int on() {
        if (!isCut) {
            return -2;
        }
        isCut = false;
        if (latestMark() == -1) {
            kept.clear();
        }
        at = latestMark() + 1;
        return writes.size() - at;
    }

    int device(int what) {
        if (what >= 10) {
            return what < 130 ? area[what - 10] : -1;
        }
        return switch (what) {
            case 0 -> holds;
            case 1 -> sum(area, holds);
            case 2 -> writes == null ? 0 : isCut ? 2 : 1;
            case 3 -> ever;
            case 4 -> kept.size();
            case 5 -> writes == null || latestMark() == -1 ? -1 : writes.get(latestMark()).at;
            case 6 -> writes == null ? -1 : goesDown ? 1 : 0;
            default -> -1;
        };
    }

    boolean fleet(int v, int many) {
        if (!is(v) || many < 0 || many > 1000) {
            return false;
        }
        devices[v] = many;
        return true;
    }

    boolean hold(int a, int b, boolean is) {
        if (!is(a) || !is(b) || a >= b || held[a][b] == is) {
            return false;
        }
        held[a][b] = is;
        return true;
    }

    private int greatest() {
        int greatest = -1;
        for (int v = 0; v < 5; v++) {
            greatest = is(v) ? v : greatest;
        }
        return greatest;
    }

    private int way(int v, boolean[][] by) {
        if (v == greatest()) {
            return 0;
        }
        int least = 3 + versions[greatest()].length;
        for (int w = v + 1; w < 5; w++) {
            if (by[v][w] && is(w)) {
                least = Math.min(least, cost(v, w) + way(w, by));
            }
        }
        return least;
    }

    private int sent(boolean[][] by) {
        int sum = 0;
        for (int v = 0; v < 5; v++) {
            sum += is(v) ? devices[v] * way(v, by) : 0;
        }
        return sum;
    }

    int sent() {
        return greatest() == -1 ? -1 : sent(held);
    }

    /** All sets there are; alike ones are told apart by size, then by the text of their pairs' digits. */
    int best(int k, int what) {
        if (k < 0 || k > 3 || what < 0 || what > 2 || greatest() == -1) {
            return -1;
        }
        int bestSet = -1;
        int bestSent = 0;
        String bestText = "";
        for (int set = 0; set < 1024; set++) {
            if (Integer.bitCount(set) > k) {
                continue;
            }
            boolean[][] by = new boolean[5][5];
            StringBuilder text = new StringBuilder().append(Integer.bitCount(set));
            int pair = 0;
            for (int a = 0; a < 5; a++) {
                for (int b = a + 1; b < 5; b++, pair++) {
                    if ((set >> pair) % 2 == 1) {
                        by[a][b] = true;
                        text.append(pair);
                    }
                }
            }
            int sent = sent(by);
            if (bestSet == -1 || sent < bestSent || sent == bestSent && text.toString().compareTo(bestText) < 0) {
                bestSet = set;
                bestSent = sent;
                bestText = text.toString();
            }
        }
        return what == 0 ? bestSent : what == 1 ? Integer.bitCount(bestSet) : bestSet;
    }
}
