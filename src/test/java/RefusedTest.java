import java.util.Random;

/** Of the Terms what they say of numbers, refusals and FINDINGS; and that no call ever throws. */
public final class RefusedTest {
    private static final Check check = new Check(RefusedTest.class);
    private static final int BAD = Check.BAD, STATE = Check.STATE, FULL = Check.FULL, NONE = Check.NONE;
    private static final int TWINS = 1500, CALLS = 200, ALL_CALLS = 512;
    /** An object answers 512 calls, and what is looked at behind the random ones counts, too. */
    private static final int MOST_LOOKED_AT = 20;

    public static void main(String[] args) throws IllegalAccessException {
        check.runAll();
    }

    /** VERSIONS 0, 1, 2 (the last with FLOOR 1), DEVICES 0 and, behind it, 1, both at VERSION 1; SHEET 0 of 2 bytes. */
    private static FleetSlots small() {
        FleetSlots x = new FleetSlots();
        x.version(2, 0, 2);
        x.version(3, 0, 4);
        x.version(1, 1, 0);
        x.device(0, 1, NONE);
        x.device(3, 1, 0);
        Fleet.shares(x, 50, 100);
        return x;
    }

    // ---- Terms: numbers, and the order of refusals

    @Says("Numbers go from 0 on.")
    static void terms0_theFirstNumbersAre0() {
        FleetSlots x = new FleetSlots();
        check.due("the first SHEET", 1, x.sheet(0, 0, 1));
        check.due("its first ITEM", 5, x.set(0, 0, 5));
        check.due("the first VERSION", 0, x.version(1, 0, 0));
        check.due("the first DEVICE", 0, x.device(0, 0, NONE));
        check.due("the first SLOT", 0, x.told(0, 1));
        check.due("the first WAVE's DEVICES", 1, x.campaign(0, 0, 0, 1, 0));
        check.due("the first WAVE", 0, x.runs(0));
        x.ask(0, 0);
        check.due("the first of THE TRACE", 12, x.trace(0));
        check.due("-1 is BAD", BAD, x.told(-1, 0));
    }

    @Says("Refusals are answers, the first of these that fits: BAD (a number is not as told; there is no such thing),"
        + " STATE (as told)")
    static void terms0_badIsAheadOfState() {
        FleetSlots x = small();
        check.due("device", BAD, x.device(1, 0, 2));
        check.due("device", STATE, x.device(1, 0, 1));
        check.due("update", BAD, x.update(2, 1));
        check.due("update", STATE, x.update(1, 1));
        check.due("acts", BAD, x.acts(2, 1));
        check.due("acts", STATE, x.acts(1, 1));
        check.due("power", BAD, x.power(1, 1, 15));
        check.due("power", STATE, x.power(1, 1, 14));
        check.due("cut", BAD, x.cut(1, 1, 14, 4));
        check.due("cut", STATE, x.cut(1, 1, 14, 3));
        check.due("tick", BAD, x.tick(100001));
        check.due("tick", STATE, x.tick(100000));
        check.due("runs", BAD, x.runs(6));
        check.due("runs", STATE, x.runs(5));
    }

    @Says("STATE (as told), FULL")
    static void terms0_badAndStateAreAheadOfFull() {
        FleetSlots x = small();
        Fleet.devices(x, 28);
        check.due("device", BAD, x.device(1, 0, 30));
        check.due("device", STATE, x.device(1, 0, 29));
        check.due("device", FULL, x.device(0, 0, 29));
        for (int v = 3; v < 10; v++) {
            x.version(1, 1, 0);
        }
        check.due("version", BAD, x.version(9, 1, 0));
        check.due("version", FULL, x.version(8, 1, 0));
    }

    @Says("FULL, then FINDINGS")
    static void terms0_badIsAheadOfFindings() {
        FleetSlots x = small();
        check.due("sheet", BAD, x.sheet(8, 0, -1));
        check.due("set", BAD, x.set(8, 99, 0));
        check.due("copy", BAD, x.copy(1, 0, 8, 0, 99));
        check.due("drop", BAD, x.drop(8));
        check.due("campaign", BAD, x.campaign(3, 1, 99, 1, 0));
        check.due("as", BAD, x.as(2, 1));
        check.due("status()", 0, x.status());
    }

    @Says("then FINDINGS, of several the first in time:")
    static void terms0_ofSeveralFindingsItIsTheFirstInTime() {
        FleetSlots x = small();
        check.due("set: NULL, PLACE", Check.NULL, x.set(1, 99, 0));
        check.due("copy: NULL, PLACE", Check.NULL, x.copy(0, 99, 1, 0, 1));
        check.due("campaign: NULL, PLACE", Check.NULL, x.campaign(2, 1, 99, 1, 0));
        x.sheet(2, 1, 2);
        check.due("copy: STORE, PLACE", Check.STORE, x.copy(0, 99, 2, 0, 1));
        x.drop(2);
        check.due("copy: NULL, not STORE any more", Check.NULL, x.copy(0, 99, 2, 0, 1));
    }

    // ---- Terms: the numbers of FINDINGS

    @Says("-1000010 less 1 NULL (a SHEET that is missing)")
    static void terms0_finding1IsNull() {
        FleetSlots x = small();
        check.due("set", -1000011, x.set(1, 0, 0));
        check.due("copy from", -1000011, x.copy(1, 0, 0, 0, 0));
        check.due("copy to", -1000011, x.copy(0, 0, 1, 0, 0));
        check.due("drop", -1000011, x.drop(1));
        check.due("campaign", -1000011, x.campaign(0, 1, 0, 1, 0));
        check.due("status()", 1, x.status());
    }

    @Says("2 PLACE (no such place of a SHEET)")
    static void terms0_finding2IsPlace() {
        FleetSlots x = small();
        check.due("set", -1000012, x.set(0, 2, 0));
        check.due("copy", -1000012, x.copy(0, 0, 0, 1, 2));
        check.due("campaign", -1000012, x.campaign(0, 0, 0, 3, 0));
        check.due("status()", 2, x.status());
    }

    @Says("3 KIND (a DEVICE that is not that)")
    static void terms0_finding3IsKind() {
        FleetSlots x = small();
        check.due("as", -1000013, x.as(0, 3));
        check.due("status()", 3, x.status());
    }

    @Says("4 SIZE (fewer than none)")
    static void terms0_finding4IsSize() {
        FleetSlots x = small();
        check.due("sheet", -1000014, x.sheet(1, 0, -1));
        check.due("status()", 4, x.status());
    }

    @Says("5 STORE (SHEETS of two LANES).")
    static void terms0_finding5IsStore() {
        FleetSlots x = small();
        x.sheet(1, 2, 2);
        check.due("copy", -1000015, x.copy(0, 0, 1, 0, 1));
        check.due("status()", 5, x.status());
    }

    // ---- Terms: what is refused, or found

    /** Of two objects one gets all calls, the other only those that the first took: then they are the same. */
    @Says("What is refused, or found, changes nothing but status().")
    static void terms0_whatIsRefusedChangesNothing() {
        for (int run = 0; run < TWINS; run++) {
            Random random = new Random(run);
            FleetSlots all = small();
            FleetSlots taken = small();
            for (int k = 0; k < CALLS; k++) {
                int[] call = Calls.next(random);
                long answer = Calls.answer(all, call);
                if (Calls.isRefusal(call, answer)) {
                    continue;
                }
                long other = Calls.answer(taken, call);
                if (call[0] < Calls.STATUS) {
                    check.due("run " + run + ": method " + call[0] + " of the twin", answer, other);
                }
            }
            dueSame(all, taken, "run " + run + ": ");
        }
    }

    private static void dueSame(FleetSlots a, FleetSlots b, String when) {
        for (int what = 0; what <= 6; what++) {
            check.due(when + "count " + what, a.count(what), b.count(what));
        }
        for (int what = 0; what <= 5; what++) {
            check.due(when + "runs " + what, a.runs(what), b.runs(what));
        }
        for (int i = 0; i <= 5; i++) {
            check.due(when + "trace " + i, a.trace(i), b.trace(i));
        }
        for (int d = 0; d < Math.min(a.count(2), MOST_LOOKED_AT); d++) {
            for (int what = 0; what <= 7; what++) {
                check.due(when + "told " + d + ", " + what, a.told(d, what), b.told(d, what));
            }
            check.due(when + "kind " + d, a.kind(d), b.kind(d));
        }
        for (int to = 1; to < a.count(1); to++) {
            check.due(when + "path to " + to, a.path(0, to, 0), b.path(0, to, 0));
        }
        for (int k = 0; k < 5; k++) {
            check.due(when + "tick", a.tick(700), b.tick(700));
        }
        for (int s = 0; s < 8; s++) {
            for (int i = 0; i < 4; i++) {
                check.due(when + "item " + i + " of " + s, a.campaign(0, s, i, 1, 0), b.campaign(0, s, i, 1, 0));
            }
            check.due(when + "drop " + s, a.drop(s), b.drop(s));
        }
    }

    /** What is answered behind the 512th call is free, but it must not throw either. */
    @Says("Refusals are answers")
    static void terms0_noCallEverThrows() {
        for (int run = 0; run < 200; run++) {
            Random random = new Random(-1 - run);
            FleetSlots x = new FleetSlots();
            randomCalls(x, random, ALL_CALLS - 1);
            int status = x.status();
            check.dueTrue("run " + run + ": status() is 0 to 5", status >= 0 && status <= 5);
            randomCalls(x, random, ALL_CALLS);
        }
    }

    private static void randomCalls(FleetSlots x, Random random, int many) {
        for (int k = 0; k < many; k++) {
            Calls.answer(x, Calls.next(random));
        }
    }
}
