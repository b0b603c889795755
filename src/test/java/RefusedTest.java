import java.util.ArrayList;
import java.util.List;
import java.util.function.Consumer;
import java.util.function.ToLongFunction;

/**
 * "Doing nothing": each call that the document refuses is made in each state of the tape, the device
 * and its power, and nothing that can be told is another one behind it. What is only asked does
 * nothing either.
 */
public final class RefusedTest extends Edges {
    private static final int[] OLD = base(0, 40);
    /** Some bytes at their own places by a SHIFT, some new, some come down: 12 are KEPT going up. */
    private static final int[] NEXT = Fill.joined(Fill.shifted(base(0, 12), 4), new int[] {8},
        base(20, 20));
    private static final int[] LAST = Fill.joined(new int[] {1, 2, 3}, Fill.shifted(NEXT, 9));

    private record Call(String name, ToLongFunction<PatchBench> asked, long due) {
    }

    public static void main(String[] args) {
        ofNewObjects();
        ofAnEmptyTape();
        ofAFullTape();
        ofAnIdleDevice();
        ofAnUpdateThatIsBegun();
        ofAnUpdateThatIsCut();
        Due.end();
    }

    private static Call call(String name, ToLongFunction<PatchBench> asked, long due) {
        return new Call(name, asked, due);
    }

    private static long bit(boolean is) {
        return is ? 1 : 0;
    }

    private static void allDoNothing(String state, Consumer<PatchBench> past, List<Call> calls) {
        for (Call call : calls) {
            Due.about("doing nothing, " + state);
            Twin.doesNothing(call.name, past, call.asked, call.due);
        }
    }

    private static void feedOnce(PatchBench bench) {
        bench.feed(0x71727374, 0x81828384, 0x91929394, 0xA1A2A3A4, 0xB1B2B3B4);
    }

    /** VERSIONS 0, 1 and 3, a fleet, what is held, what is melted, a device, and 20 bytes on the tape. */
    private static void idle(PatchBench bench) {
        Fill.version(bench, 0, OLD);
        Fill.version(bench, 1, NEXT);
        Fill.version(bench, 3, LAST);
        bench.melt(0, 1, 3);
        bench.fleet(0, 3);
        bench.fleet(1, 50);
        bench.fleet(3, 700);
        bench.hold(0, 1, true);
        bench.hold(1, 3, true);
        bench.install(0);
        feedOnce(bench);
    }

    /** 12 bytes to be KEPT, their MARK, 33 new bytes with theirs, and the last one: 80 WRITES. */
    private static void begun(PatchBench bench, int writes) {
        idle(bench);
        Due.same("update(0, 1)", bench.update(0, 1), 80);
        Due.same("write(" + writes + ")", bench.write(writes), writes);
    }

    private static void cut(PatchBench bench, int writes) {
        begun(bench, writes);
        Due.yes("cut()", bench.cut());
    }

    private static void ofNewObjects() {
        List<Call> calls = new ArrayList<>();
        for (int v : new int[] {LEAST, -1, 0, 1, 2, 3, 4, 5, MOST}) {
            calls.add(call("version(" + v + ", 1)", bench -> bench.version(v, 1), -1));
            calls.add(call("install(" + v + ")", bench -> bit(bench.install(v)), 0));
            calls.add(call("update(" + v + ", " + v + ")", bench -> bench.update(v, v), -1));
            calls.add(call("melt(" + v + ", ..)", bench -> bench.melt(v, v, v), -1));
            calls.add(call("fleet(" + v + ", 1)", bench -> bit(bench.fleet(v, 1)), 0));
            calls.add(call("hold(" + v + ", 4, true)", bench -> bit(bench.hold(v, 4, true)), 0));
        }
        calls.add(call("write(0)", bench -> bench.write(0), -2));
        calls.add(call("write(1)", bench -> bench.write(1), -2));
        calls.add(call("cut()", bench -> bit(bench.cut()), 0));
        calls.add(call("on()", PatchBench::on, -2));
        allDoNothing("a new object", bench -> { }, calls);
    }

    private static void ofAnEmptyTape() {
        List<Call> calls = new ArrayList<>();
        for (int n : new int[] {LEAST, -1, 0, 1, 20, 40, 120, 121, MOST}) {
            calls.add(call("version(0, " + n + ")", bench -> bench.version(0, n), -1));
        }
        allDoNothing("the tape empty", bench -> {
            idle(bench);
            bench.version(3, 20);
        }, calls);
    }

    private static void ofAFullTape() {
        List<Call> calls = new ArrayList<>();
        calls.add(call("feed(1, 2, 3, 4, 5)", bench -> bench.feed(1, 2, 3, 4, 5), -1));
        calls.add(call("feed(0, 0, 0, 0, 0)", bench -> bench.feed(0, 0, 0, 0, 0), -1));
        for (int n : new int[] {LEAST, -1, 0, 121, 200, 201, MOST}) {
            calls.add(call("version(0, " + n + ")", bench -> bench.version(0, n), -1));
            calls.add(call("version(2, " + n + ")", bench -> bench.version(2, n), -1));
        }
        allDoNothing("the tape full", bench -> {
            idle(bench);
            for (int i = 2; i <= 10; i++) {
                bench.feed(i, -i, i << 16, i * 77777, ~i);
            }
        }, calls);
    }

    private static void ofAnIdleDevice() {
        List<Call> calls = alwaysRefused();
        calls.addAll(onlyAsked());
        calls.add(call("update(1, 0)", bench -> bench.update(1, 0), -3));
        calls.add(call("update(3, 3)", bench -> bench.update(3, 3), -3));
        calls.add(call("write(0)", bench -> bench.write(0), -2));
        calls.add(call("write(1)", bench -> bench.write(1), -2));
        calls.add(call("write(1000)", bench -> bench.write(1000), -2));
        calls.add(call("cut()", bench -> bit(bench.cut()), 0));
        calls.add(call("on()", PatchBench::on, -2));
        allDoNothing("no UPDATE begun", RefusedTest::idle, calls);
    }

    /** Ahead of the first WRITE, among the KEPT, behind the last KEPT, marked, behind a new byte, at the last. */
    private static void ofAnUpdateThatIsBegun() {
        for (int writes : new int[] {0, 5, 12, 13, 20, 79}) {
            List<Call> calls = alwaysRefused();
            calls.addAll(onlyAsked());
            calls.add(call("update(0, 1)", bench -> bench.update(0, 1), -2));
            calls.add(call("update(1, 3)", bench -> bench.update(1, 3), -2));
            calls.add(call("write(0)", bench -> bench.write(0), 0));
            calls.add(call("on()", PatchBench::on, -2));
            allDoNothing("behind WRITE " + writes, bench -> begun(bench, writes), calls);
        }
    }

    private static void ofAnUpdateThatIsCut() {
        for (int writes : new int[] {0, 5, 12, 13, 20, 79}) {
            List<Call> calls = alwaysRefused();
            calls.addAll(onlyAsked());
            calls.add(call("update(0, 1)", bench -> bench.update(0, 1), -2));
            calls.add(call("update(1, 3)", bench -> bench.update(1, 3), -2));
            calls.add(call("write(0)", bench -> bench.write(0), -2));
            calls.add(call("write(1)", bench -> bench.write(1), -2));
            calls.add(call("write(1000)", bench -> bench.write(1000), -2));
            calls.add(call("cut()", bench -> bit(bench.cut()), 0));
            allDoNothing("cut behind WRITE " + writes, bench -> cut(bench, writes), calls);
        }
    }

    /** VERSIONS 2 and 4 aren't there, and 20 bytes are on the tape. */
    private static List<Call> alwaysRefused() {
        List<Call> calls = new ArrayList<>();
        for (int v : new int[] {LEAST, -1, 2, 4, 5, MOST}) {
            calls.add(call("install(" + v + ")", bench -> bit(bench.install(v)), 0));
            calls.add(call("update(" + v + ", 0)", bench -> bench.update(v, 0), -1));
            calls.add(call("update(0, " + v + ")", bench -> bench.update(0, v), -1));
            calls.add(call("melt(" + v + ", 1, 0)", bench -> bench.melt(v, 1, 0), -1));
            calls.add(call("melt(0, " + v + ", 1)", bench -> bench.melt(0, v, 1), -1));
            calls.add(call("melt(1, 0, " + v + ")", bench -> bench.melt(1, 0, v), -1));
            calls.add(call("fleet(" + v + ", 9)", bench -> bit(bench.fleet(v, 9)), 0));
            calls.add(call("hold(0, " + v + ", true)", bench -> bit(bench.hold(0, v, true)), 0));
            calls.add(call("hold(" + v + ", 3, true)", bench -> bit(bench.hold(v, 3, true)), 0));
        }
        for (int v : new int[] {LEAST, -1, 5, MOST}) {
            calls.add(call("version(" + v + ", 20)", bench -> bench.version(v, 20), -1));
        }
        for (int n : new int[] {LEAST, -1, 0, 21, 120, 121, MOST}) {
            calls.add(call("version(1, " + n + ")", bench -> bench.version(1, n), -1));
            calls.add(call("version(4, " + n + ")", bench -> bench.version(4, n), -1));
        }
        for (int n : new int[] {LEAST, -1, 1001, MOST}) {
            calls.add(call("write(" + n + ")", bench -> bench.write(n), -1));
            calls.add(call("fleet(1, " + n + ")", bench -> bit(bench.fleet(1, n)), 0));
        }
        calls.add(call("hold(1, 0, true)", bench -> bit(bench.hold(1, 0, true)), 0));
        calls.add(call("hold(1, 1, true)", bench -> bit(bench.hold(1, 1, true)), 0));
        calls.add(call("hold(0, 1, true)", bench -> bit(bench.hold(0, 1, true)), 0));
        calls.add(call("hold(0, 3, false)", bench -> bit(bench.hold(0, 3, false)), 0));
        return calls;
    }

    private static List<Call> onlyAsked() {
        List<Call> calls = new ArrayList<>();
        calls.add(call("told(1, -1)", bench -> bench.told(1, -1), 33));
        calls.add(call("told(1, 33)", bench -> bench.told(1, 33), -1));
        calls.add(call("check(4)", bench -> bench.check(4), -1));
        calls.add(call("cost(3, 0) and (2, 0)", bench -> Math.min(bench.cost(3, 0), bench.cost(2, 0)), -1));
        calls.add(call("step(1, 0, 99, 0)", bench -> bench.step(1, 0, 99, 0), -1));
        calls.add(call("melted(99, 0)", bench -> bench.melted(99, 0), -1));
        calls.add(call("room(3, 1, 3)", bench -> bench.room(3, 1, 3), -1));
        calls.add(call("room(1, 1, 2)", bench -> bench.room(1, 1, 2), 0));
        calls.add(call("device(130)", bench -> bench.device(130), -1));
        calls.add(call("best(3, 1)", bench -> bench.best(3, 1), 2));
        calls.add(call("best(4, 0)", bench -> bench.best(4, 0), -1));
        calls.add(call("sent() less sent()", bench -> bench.sent() - bench.sent(), 0));
        return calls;
    }
}
