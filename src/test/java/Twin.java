import java.util.ArrayList;
import java.util.List;
import java.util.function.Consumer;
import java.util.function.ToLongFunction;

/**
 * Two benches with the same past, of which only one is asked something. If that does nothing, all that
 * can be told of the two is alike. A telling takes some 310 calls and uses its bench up, so a past has
 * to be shorter than 200 calls.
 */
final class Twin {
    private record Told(String call, long answer) {
    }

    private final PatchBench bench;
    private final List<Told> all = new ArrayList<>();

    private Twin(PatchBench bench) {
        this.bench = bench;
    }

    static void doesNothing(String call, Consumer<PatchBench> past, ToLongFunction<PatchBench> asked, long due) {
        PatchBench plain = new PatchBench();
        PatchBench other = new PatchBench();
        past.accept(plain);
        past.accept(other);
        Due.same(call, asked.applyAsLong(other), due);
        List<Told> want = new Twin(plain).tellAll();
        List<Told> got = new Twin(other).tellAll();
        Due.same(call + " behind it: how much can be told", got.size(), want.size());
        for (int i = 0; i < want.size() && i < got.size(); i++) {
            Due.same(call + ", then " + got.get(i).call, got.get(i).answer, want.get(i).answer);
        }
    }

    private List<Told> tellAll() {
        device();
        patches();
        fleet();
        restOfTheUpdate();
        tape();
        return all;
    }

    private void tell(String call, long answer) {
        all.add(new Told(call, answer));
    }

    private void device() {
        for (int what = 0; what <= 6; what++) {
            tell("device(" + what + ")", bench.device(what));
        }
        for (int what = 10; what < 130; what++) {
            tell("device(" + what + ")", bench.device(what));
        }
    }

    private void patches() {
        for (int v = 0; v < 5; v++) {
            tell("told(" + v + ", -1)", bench.told(v, -1));
            tell("check(" + v + ")", bench.check(v));
        }
        int steps = bench.melted(-1, 0);
        tell("melted(-1, 0)", steps);
        for (int k = 0; k < Math.min(steps, 5); k++) {
            for (int what = 0; what < 4; what++) {
                tell("melted(" + k + ", " + what + ")", bench.melted(k, what));
            }
        }
    }

    private void fleet() {
        tell("sent()", bench.sent());
        tell("best(3, 0)", bench.best(3, 0));
        tell("best(3, 2)", bench.best(3, 2));
        for (int a = 0; a < 5; a++) {
            for (int b = a + 1; b < 5; b++) {
                tell("hold(" + a + ", " + b + ", false)", bench.hold(a, b, false) ? 1 : 0);
            }
        }
        tell("sent() without any held", bench.sent());
    }

    private void restOfTheUpdate() {
        tell("on()", bench.on());
        tell("write(1000)", bench.write(1000));
        device();
    }

    /** The DEVICES of the greatest VERSION are seen once a greater one is there: it takes the tape. */
    private void tape() {
        int many = bench.feed(0x11121314, 0x21222324, 0x31323334, 0x41424344, 0x51525354);
        tell("feed", many);
        tell("version(4, ..)", bench.version(4, many < 0 ? 120 : Math.min(many, 120)));
        tell("check(4)", bench.check(4));
        tell("sent() to VERSION 4", bench.sent());
    }
}
