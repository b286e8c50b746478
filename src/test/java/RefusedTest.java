import java.util.Random;

/**
 * What is refused, or found, changes nothing but status(): of two objects one gets all calls, the other only those
 * that the first took; then everything that can be seen of the two must be the same. And no call ever throws.
 */
public final class RefusedTest {
    private static final Check check = new Check("RefusedTest");
    private static final int RUNS = 1500, CALLS = 200;

    public static void main(String[] args) {
        for (int run = 0; run < RUNS; run++) {
            twins(new Random(run), run);
        }
        for (int run = 0; run < 200; run++) {
            manyCalls(new Random(-1 - run), run);
        }
        check.end();
    }

    private static void twins(Random random, int run) {
        FleetSlots all = new FleetSlots();
        FleetSlots taken = new FleetSlots();
        grow(all);
        grow(taken);
        for (int k = 0; k < CALLS; k++) {
            int[] call = Calls.next(random);
            long answer = Calls.answer(all, call);
            if (!Calls.isRefusal(call, answer)) {
                long other = Calls.answer(taken, call);
                if (call[0] < 24) {
                    check.due("run " + run + ": method " + call[0] + " of the twin", answer, other);
                }
            }
        }
        dueSame(all, taken, run);
    }

    private static void grow(FleetSlots x) {
        x.version(2, 0, 2);
        x.version(3, 0, 4);
        x.version(1, 1, 0);
        x.device(0, 0, FleetSlots.NONE);
        x.device(2, 0, 0);
    }

    private static void dueSame(FleetSlots a, FleetSlots b, int run) {
        String when = "run " + run + ": ";
        for (int what = 0; what <= 6; what++) {
            check.due(when + "count " + what, a.count(what), b.count(what));
        }
        for (int what = 0; what <= 5; what++) {
            check.due(when + "runs " + what, a.runs(what), b.runs(what));
        }
        for (int i = 0; i <= 16; i++) {
            check.due(when + "trace " + i, a.trace(i), b.trace(i));
        }
        for (int d = 0; d < a.count(2); d++) {
            for (int what = 0; what <= 8; what++) {
                check.due(when + "told " + d + ", " + what, a.told(d, what), b.told(d, what));
            }
            check.due(when + "kind " + d, a.kind(d), b.kind(d));
        }
        for (int to = 1; to < a.count(1); to++) {
            check.due(when + "path to " + to, a.path(0, to, 0), b.path(0, to, 0));
        }
        for (int k = 0; k < 10; k++) {
            check.due(when + "tick", a.tick(700), b.tick(700));
        }
        for (int s = 0; s < 8; s++) {
            for (int i = 0; i < 8; i++) {
                check.due(when + "item " + i + " of " + s, a.campaign(0, s, i, 1, 0), b.campaign(0, s, i, 1, 0));
            }
            check.due(when + "drop " + s, a.drop(s), b.drop(s));
        }
    }

    /** What is answered behind the 512th call is free, but it must not throw either. */
    private static void manyCalls(Random random, int run) {
        FleetSlots x = new FleetSlots();
        for (int k = 0; k < 1000; k++) {
            Calls.answer(x, Calls.next(random));
        }
        check.due("run " + run + ": all are ALIVE", x.count(2), x.count(3));
        int status = x.status();
        check.due("run " + run + ": status() is 0 to 5", 1, status >= 0 && status <= 5 ? 1 : 0);
    }
}
