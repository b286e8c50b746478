/** Promises 21 to 26: KINDS, ASKS, THE TRACE, counts and status(). */
public final class AskedTest {
    private static final int NONE = FleetSlots.NONE;
    private static final int DEVICE = 0, FRESH = 1, SETTLED = 2, STUCK = 3;
    private static final Check check = new Check("AskedTest");

    public static void main(String[] args) {
        kindRefused();
        kindsOfALife();
        stuckByOlderVersions();
        stuckByCutsAndTicks();
        as();
        asRefused();
        askOfEachKind();
        askRefused();
        traceOfAllAsks();
        count();
        countOfKinds();
        countOfAFullFleet();
        status();
        check.end();
    }

    private static void kindRefused() {
        FleetSlots x = new FleetSlots();
        check.due("kind(0)", Check.BAD, x.kind(0));
        x.version(1, 0, 0);
        x.device(0, 0, NONE);
        check.due("kind(-1)", Check.BAD, x.kind(-1));
        check.due("kind(1)", Check.BAD, x.kind(1));
        check.due("kind(0)", SETTLED, x.kind(0));
    }

    private static void kindsOfALife() {
        FleetSlots x = new FleetSlots();
        x.version(1, 0, 0);
        x.device(0, 0, NONE);
        check.due("at the latest", SETTLED, x.kind(0));
        x.version(1, 0, 1);
        check.due("there is a later one", DEVICE, x.kind(0));
        x.update(0, 1);
        check.due("failed once", DEVICE, x.kind(0));
        x.update(0, 1);
        check.due("failed twice", STUCK, x.kind(0));
        x.version(1, 0, 0);
        check.due("another VERSION", STUCK, x.kind(0));
        x.update(0, 2);
        check.due("at the latest, but it failed", FRESH, x.kind(0));
        x.version(1, 0, 1);
        check.due("a later one: none failed since", DEVICE, x.kind(0));
        x.update(0, 3);
        check.due("failed once since", DEVICE, x.kind(0));
        x.update(0, 3);
        check.due("failed twice since", STUCK, x.kind(0));
        check.due("failed in all", 4, x.told(0, 6));
    }

    private static void stuckByOlderVersions() {
        FleetSlots x = new FleetSlots();
        x.version(1, 0, 0);
        x.version(1, 0, 1);
        x.version(1, 0, 0);
        x.version(1, 0, 0);
        x.device(0, 0, NONE);
        x.update(0, 1);
        x.update(0, 1);
        check.due("failed twice", STUCK, x.kind(0));
        x.update(0, 2);
        check.due("TAKEN, but not the latest", STUCK, x.kind(0));
        x.update(0, 3);
        check.due("the latest", FRESH, x.kind(0));
        check.due("another that came", 1, x.device(1, 0, 0));
        x.update(1, 3);
        check.due("none ever failed", SETTLED, x.kind(1));
    }

    private static void stuckByCutsAndTicks() {
        FleetSlots x = new FleetSlots();
        x.version(1, 0, 0);
        x.version(1, 0, 1);
        x.device(0, 0, NONE);
        x.device(1, 0, NONE);
        x.power(1, 1, 0);
        x.cut(1, 1, 1, 0);
        x.acts(1, 1);
        check.due("one CUT", DEVICE, x.kind(1));
        x.power(1, 1, 2);
        check.due("two CUTS", STUCK, x.kind(1));
        x.power(1, 1, 3);
        check.due("a CUT behind MARK", FRESH, x.kind(1));
        x.sheet(0, 0, 2);
        x.set(0, 0, 50);
        x.set(0, 1, 100);
        x.campaign(1, 0, 0, 2, 10);
        x.tick(100000);
        x.tick(100000);
        x.tick(100000);
        check.due("two WAVES", STUCK, x.kind(0));
    }

    /** 0 a DEVICE, 1 FRESH, 2 SETTLED, 3 STUCK; SORTS 4 to 7; FUSE 1 for 0 and 3, FLOOR of VERSION 3 is 2. */
    private static FleetSlots ofEachKind() {
        FleetSlots x = new FleetSlots();
        x.version(1, 0, 0);
        x.version(1, 1, 0);
        x.version(1, 1, 128 + 32);
        x.version(2, 2, 0);
        x.device(4, 1, NONE);
        x.device(5, 1, NONE);
        x.device(6, 0, NONE);
        x.device(7, 1, NONE);
        x.update(1, 2);
        x.update(1, 3);
        x.update(2, 3);
        x.update(3, 2);
        x.update(3, 2);
        x.update(3, 2);
        return x;
    }

    private static void as() {
        FleetSlots x = ofEachKind();
        boolean[][] is = {{true, false, false, false}, {true, true, false, false}, {true, true, true, false},
            {true, false, false, true}};
        for (int d = 0; d < 4; d++) {
            check.due("kind(" + d + ")", d, x.kind(d));
            for (int k = 0; k < 4; k++) {
                check.due("as(" + d + ", " + k + ")", is[d][k] ? 4 + d : Check.KIND, x.as(d, k));
                check.due("status()", is[d][k] ? 0 : 3, x.status());
            }
        }
    }

    private static void asRefused() {
        FleetSlots x = ofEachKind();
        x.as(0, 1);
        check.due("as(-1, 0)", Check.BAD, x.as(-1, 0));
        check.due("as(4, 0)", Check.BAD, x.as(4, 0));
        check.due("as(0, -1)", Check.BAD, x.as(0, -1));
        check.due("as(0, 4)", Check.BAD, x.as(0, 4));
        check.due("status() is not that of BAD", 3, x.status());
    }

    private static void askOfEachKind() {
        FleetSlots x = ofEachKind();
        check.due("WORTH of a DEVICE", 1, x.ask(0, 0));
        check.dueTrace("of a DEVICE", x, 10);
        check.due("MARK of a DEVICE", 4, x.ask(0, 1));
        check.dueTrace("of a DEVICE", x, 20);
        check.due("WORTH of a FRESH one", 103, x.ask(1, 0));
        check.dueTrace("of a FRESH one", x, 11, 10);
        check.due("MARK of a FRESH one", 5 + 103, x.ask(1, 1));
        check.dueTrace("of a FRESH one", x, 21, 20, 11, 10);
        check.due("WORTH of a SETTLED one", 206, x.ask(2, 0));
        check.dueTrace("of a SETTLED one", x, 12, 11, 10);
        check.due("MARK of a SETTLED one", 6 + 206, x.ask(2, 1));
        check.dueTrace("of a SETTLED one", x, 21, 20, 12, 11, 10);
        check.due("WORTH of a STUCK one", 1 - 3, x.ask(3, 0));
        check.dueTrace("of a STUCK one", x, 13, 10);
        check.due("MARK of a STUCK one", 7 + 1, x.ask(3, 1));
        check.dueTrace("of a STUCK one", x, 22, 20);
    }

    private static void askRefused() {
        FleetSlots x = ofEachKind();
        check.due("trace(0) at first", NONE, x.trace(0));
        x.ask(3, 0);
        check.due("ask(-1, 0)", Check.BAD, x.ask(-1, 0));
        check.due("ask(4, 0)", Check.BAD, x.ask(4, 0));
        check.due("ask(0, -1)", Check.BAD, x.ask(0, -1));
        check.due("ask(0, 2)", Check.BAD, x.ask(0, 2));
        check.dueTrace("THE TRACE stays", x, 13, 10);
    }

    /** THE TRACE holds the latest ASK alone: the others neither add to it nor empty it. */
    private static void traceOfAllAsks() {
        FleetSlots x = ofEachKind();
        x.ask(2, 1);
        x.as(0, 1);
        x.kind(0);
        x.count(4);
        x.update(0, 3);
        check.dueTrace("others leave it", x, 21, 20, 12, 11, 10);
        check.due("trace(-1)", NONE, x.trace(-1));
        check.due("trace(16)", NONE, x.trace(16));
        check.due("trace(MAX)", NONE, x.trace(Integer.MAX_VALUE));
        check.due("trace(MIN)", NONE, x.trace(Integer.MIN_VALUE));
        for (int k = 0; k < 20; k++) {
            x.ask(2, 1);
        }
        check.dueTrace("behind many", x, 21, 20, 12, 11, 10);
    }

    private static void count() {
        FleetSlots x = ofEachKind();
        x.sheet(0, 0, 1);
        x.sheet(7, 2, 0);
        x.sheet(7, 1, 5);
        x.step(0, 1, 5);
        x.step(0, 1, 6);
        x.step(1, 3, 5);
        x.step(2, 3, 5);
        int[] wants = {2, 4, 4, 4, 2, 1, 3};
        for (int what = 0; what < wants.length; what++) {
            check.due("count(" + what + ")", wants[what], x.count(what));
        }
        check.due("count(-1)", Check.BAD, x.count(-1));
        check.due("count(7)", Check.BAD, x.count(7));
    }

    private static void countOfKinds() {
        FleetSlots x = ofEachKind();
        x.version(1, 2, 0);
        check.due("none is at the latest", 0, x.count(4));
        check.due("STUCK as ahead", 1, x.count(5));
        x.update(3, 4);
        check.due("one is FRESH", 1, x.count(4));
        check.due("and STUCK no more", 0, x.count(5));
    }

    private static void countOfAFullFleet() {
        FleetSlots x = new FleetSlots();
        x.version(1, 0, 0);
        for (int d = 0; d < 30; d++) {
            x.device(d % 8, 0, NONE);
        }
        check.due("all are ALIVE", 30, x.count(3));
        check.due("all are SETTLED", 30, x.count(4));
        check.due("none is STUCK", 0, x.count(5));
        x.version(1, 0, 255);
        for (int d = 0; d < 60; d++) {
            x.update(d % 30, 1);
        }
        check.due("all are ALIVE", 30, x.count(3));
        check.due("none is FRESH", 0, x.count(4));
        check.due("all are STUCK", 30, x.count(5));
        x.sheet(0, 0, 1);
        x.set(0, 0, 100);
        check.due("all are of the WAVE", 30, x.campaign(0, 0, 0, 1, 0));
        check.due("all are above", 30, x.runs(5));
        check.due("none is asked", 0, x.tick(0));
    }

    private static void status() {
        FleetSlots x = ofEachKind();
        check.due("at first", 0, x.status());
        x.sheet(0, 0, -1);
        check.due("SIZE", 4, x.status());
        x.sheet(0, 9, -1);
        check.due("BAD does not count", 4, x.status());
        x.set(8, 0, 0);
        x.copy(0, 0, 8, 0, 0);
        x.drop(8);
        x.as(0, 9);
        check.due("BAD does not count", 4, x.status());
        x.told(0, 0);
        x.update(0, 1);
        x.ask(0, 0);
        x.tick(0);
        x.count(0);
        x.version(0, 0, 0);
        check.due("others do not count", 4, x.status());
        x.drop(0);
        check.due("NULL", 1, x.status());
        x.as(0, 3);
        check.due("KIND", 3, x.status());
        x.as(0, 0);
        check.due("none", 0, x.status());
        x.sheet(0, 0, 2);
        x.set(0, 2, 0);
        check.due("PLACE", 2, x.status());
        x.set(0, 1, 0);
        check.due("none", 0, x.status());
        x.sheet(1, 1, 2);
        x.copy(0, 0, 1, 0, 1);
        check.due("STORE", 5, x.status());
        x.copy(0, 0, 0, 1, 1);
        check.due("none", 0, x.status());
        x.copy(0, 0, 0, 1, 2);
        check.due("PLACE", 2, x.status());
        x.drop(1);
        check.due("none", 0, x.status());
        x.set(1, 0, 0);
        check.due("NULL", 1, x.status());
        x.sheet(1, 0, 0);
        check.due("none", 0, x.status());
    }
}
