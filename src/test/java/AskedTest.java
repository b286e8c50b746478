/** Promises 21 to 26, and of the Terms what they say of KINDS, ASKS and BODIES. */
public final class AskedTest {
    private static final Check check = new Check(AskedTest.class);
    private static final int BAD = Check.BAD, STATE = Check.STATE, NONE = Check.NONE;
    private static final int MAX = Check.MAX, MIN = Check.MIN;
    private static final int DEVICE = 0, FRESH = 1, SETTLED = 2, STUCK = 3;

    public static void main(String[] args) throws IllegalAccessException {
        check.runAll();
    }

    /** DEVICE 0 of SORT 0 at VERSION 0; so many VERSIONS, those behind 0 AIL on SORT 1. */
    private static FleetSlots ofVersions(int many) {
        FleetSlots x = new FleetSlots();
        for (int v = 0; v < many; v++) {
            x.version(1, 0, v == 0 ? 0 : 2);
        }
        x.device(0, 0, NONE);
        return x;
    }

    /**
     * DEVICES 0 to 3, of SORTS 4 to 7, are told as 0 DEVICE, 1 FRESH, 2 SETTLED, 3 STUCK (it failed 3 times). The
     * latest VERSION is 3; DEVICES 0 and 3 are at VERSION 1, with FUSE 1.
     */
    private static FleetSlots ofEachKind() {
        FleetSlots x = new FleetSlots();
        x.version(1, 0, 0);
        x.version(1, 1, 0);
        x.version(1, 1, 128 + 32);
        x.version(2, 2, 0);
        x.device(4, 1, NONE);
        x.device(5, 1, NONE);
        x.device(6, 0, NONE);
        x.device(7, 1, NONE);
        x.update(1, 2);
        x.update(1, 3);
        x.update(2, 3);
        x.update(3, 2);
        x.update(3, 2);
        x.update(3, 2);
        return x;
    }

    // ---- Terms: KINDS

    @Says("KINDS of DEVICES: 0 DEVICE; 1 FRESH, a DEVICE: ON is the latest VERSION;")
    static void terms2_freshIsWhatHasTheLatestVersionOn() {
        FleetSlots x = ofVersions(3);
        check.due("at VERSION 0 of 3", DEVICE, x.kind(0));
        check.due("FRESH, too", Check.KIND, x.as(0, FRESH));
        x.update(0, 1);
        check.due("at VERSION 1 of 3", Check.KIND, x.as(0, FRESH));
        x.update(0, 2);
        check.due("at VERSION 2 of 3", 0, x.as(0, FRESH));
        x.version(1, 0, 0);
        check.due("there is a later one", Check.KIND, x.as(0, FRESH));
        check.due("there is a later one", DEVICE, x.kind(0));
    }

    @Says("2 SETTLED, a FRESH one: no UPDATE of it ever failed;")
    static void terms2_settledIsAFreshOneOfWhichNoUpdateEverFailed() {
        FleetSlots x = ofVersions(2);
        check.due("none failed, but not FRESH", DEVICE, x.kind(0));
        x.update(0, 1);
        check.due("none failed", SETTLED, x.kind(0));
        FleetSlots y = ofVersions(2);
        y.power(0, 1, 0);
        y.update(0, 1);
        check.due("one failed", FRESH, y.kind(0));
        y.version(1, 0, 0);
        y.update(0, 2);
        check.due("none since, but one ever", FRESH, y.kind(0));
    }

    @Says("3 STUCK, a DEVICE: UPDATES of it failed 2 times or more since it was FRESH (or came).")
    static void terms2_stuckIsOneThatFailed2TimesSinceItCame() {
        FleetSlots x = ofVersions(2);
        x.device(1, 0, NONE);
        check.due("not at all", DEVICE, x.kind(1));
        x.update(1, 1);
        check.due("once", DEVICE, x.kind(1));
        x.update(1, 1);
        check.due("twice", STUCK, x.kind(1));
        x.update(1, 1);
        check.due("three times", STUCK, x.kind(1));
        check.due("the other DEVICE", DEVICE, x.kind(0));
    }

    @Says("UPDATES of it failed 2 times or more since it was FRESH (or came).")
    static void terms2_whatFailedAheadOfBeingFreshDoesNotCount() {
        FleetSlots x = ofVersions(2);
        x.power(0, 1, 0);
        x.power(0, 1, 0);
        check.due("twice", STUCK, x.kind(0));
        x.update(0, 1);
        check.due("FRESH", FRESH, x.kind(0));
        check.due("STUCK no more", Check.KIND, x.as(0, STUCK));
        x.version(1, 0, 0);
        check.due("none since", DEVICE, x.kind(0));
        check.due("not STUCK", Check.KIND, x.as(0, STUCK));
        x.power(0, 2, 0);
        check.due("once since", DEVICE, x.kind(0));
        x.power(0, 2, 0);
        check.due("twice since", STUCK, x.kind(0));
        check.due("failed in all", 4, x.told(0, 6));
    }

    @Says("since it was FRESH (or came).")
    static void terms2_oneFailureOnEachSideOfBeingFreshIsNotStuck() {
        FleetSlots x = ofVersions(2);
        x.power(0, 1, 0);
        x.update(0, 1);
        x.version(1, 0, 0);
        x.power(0, 2, 0);
        check.due("one of two is since", DEVICE, x.kind(0));
        check.due("failed in all", 2, x.told(0, 6));
    }

    @Says("since it was FRESH (or came).")
    static void terms2_oneTakenThatIsNotTheLatestDoesNotEndBeingStuck() {
        FleetSlots x = ofVersions(4);
        x.power(0, 1, 0);
        x.update(0, 1);
        check.due("once", DEVICE, x.kind(0));
        x.power(0, 2, 0);
        check.due("twice", STUCK, x.kind(0));
        x.update(0, 2);
        check.due("TAKEN, but not the latest", STUCK, x.kind(0));
        x.update(0, 3);
        check.due("the latest", FRESH, x.kind(0));
    }

    @Says("since it was FRESH")
    static void terms2_oneThatPowerMakesFreshIsStuckNoMore() {
        FleetSlots x = ofVersions(2);
        x.power(0, 1, 0);
        x.power(0, 1, 2);
        check.due("twice", STUCK, x.kind(0));
        check.due("a CUT behind MARK", 1, x.power(0, 1, 3));
        check.due("FRESH", FRESH, x.kind(0));
        x.version(1, 0, 0);
        check.due("none since", DEVICE, x.kind(0));
    }

    @Says("UPDATES of it failed 2 times or more")
    static void terms2_updatesByTicksCountToo() {
        FleetSlots x = ofVersions(2);
        x.device(1, 0, NONE);
        Fleet.shares(x, 99, 100);
        x.campaign(1, 0, 0, 2, 10);
        check.due("both", 2, x.tick(100000));
        check.due("SETTLED by a TICK", SETTLED, x.kind(0));
        check.due("once", DEVICE, x.kind(1));
        x.tick(100000);
        x.tick(100000);
        check.due("twice", STUCK, x.kind(1));
    }

    @Says("UPDATES of it failed 2 times or more")
    static void terms2_whatIsForetoldOrRefusedDoesNotCount() {
        FleetSlots x = ofVersions(2);
        for (int k = 0; k < 3; k++) {
            x.acts(0, 1);
            x.cut(0, 1, 0, 0);
            x.update(0, 0);
            x.power(0, 1, 15);
            x.power(0, 1, 5);
        }
        check.due("none failed", DEVICE, x.kind(0));
        x.update(0, 1);
        check.due("none ever failed", SETTLED, x.kind(0));
    }

    @Says("It is told as the first that fits of SETTLED, FRESH, STUCK, DEVICE;")
    static void terms2_itIsToldAsTheFirstThatFits() {
        FleetSlots x = ofEachKind();
        check.due("SETTLED, FRESH, DEVICE", SETTLED, x.kind(2));
        check.due("FRESH, DEVICE", FRESH, x.kind(1));
        check.due("STUCK, DEVICE", STUCK, x.kind(3));
        check.due("DEVICE", DEVICE, x.kind(0));
    }

    @Says("by this it is asked.")
    static void terms2_byWhatItIsToldAsItIsAsked() {
        FleetSlots x = ofEachKind();
        int[] bodies = {10, 11, 12, 13};
        for (int d = 0; d < 4; d++) {
            x.ask(d, 0);
            check.due("the first BODY", bodies[x.kind(d)], x.trace(0));
        }
    }

    // ---- Terms: ASKS

    @Says("ASKS, by BODIES, each of which leaves its number in THE TRACE as it begins (the first 16):")
    static void terms4_eachBodyLeavesItsNumberAsItBegins() {
        FleetSlots x = ofEachKind();
        x.ask(2, 1);
        check.dueTrace("the one that asks is ahead", x, 21, 20, 12, 11, 10);
        for (int i = 5; i <= 16; i++) {
            check.due("trace(" + i + ")", NONE, x.trace(i));
        }
    }

    @Says("0 WORTH: 10 lent to all DEVICES: the number of the VERSION that is ON.")
    static void terms4_worthOfADeviceIsTheVersionThatIsOn() {
        FleetSlots x = ofEachKind();
        check.due("WORTH", 1, x.ask(0, 0));
        check.dueTrace("WORTH", x, 10);
        FleetSlots y = ofVersions(10);
        check.due("WORTH at VERSION 0", 0, y.ask(0, 0));
        y.update(0, 8);
        check.due("WORTH at VERSION 8", 8, y.ask(0, 0));
        check.dueTrace("WORTH", y, 10);
    }

    @Says("11 of FRESH ones: what 10 gives, and 100.")
    static void terms4_worthOfAFreshOneIs100More() {
        FleetSlots x = ofEachKind();
        check.due("WORTH", 103, x.ask(1, 0));
        check.dueTrace("WORTH", x, 11, 10);
    }

    @Says("12 of SETTLED ones: twice what 11 gives (asked once).")
    static void terms4_worthOfASettledOneIsTwiceThatAskedOnce() {
        FleetSlots x = ofEachKind();
        check.due("WORTH", 206, x.ask(2, 0));
        check.dueTrace("WORTH", x, 12, 11, 10);
        FleetSlots y = ofVersions(1);
        check.due("WORTH at VERSION 0", 200, y.ask(0, 0));
    }

    @Says("13 of STUCK ones: what 10 gives, less how often it failed (in all).")
    static void terms4_worthOfAStuckOneIsLessHowOftenItFailed() {
        FleetSlots x = ofEachKind();
        check.due("WORTH", 1 - 3, x.ask(3, 0));
        check.dueTrace("WORTH", x, 13, 10);
    }

    @Says("less how often it failed (in all).")
    static void terms4_inAllNotSinceItWasFresh() {
        FleetSlots x = ofVersions(2);
        x.power(0, 1, 0);
        x.power(0, 1, 0);
        x.power(0, 1, 0);
        x.update(0, 1);
        x.version(1, 0, 0);
        x.power(0, 2, 0);
        check.due("a DEVICE", 1, x.ask(0, 0));
        x.power(0, 2, 0);
        check.due("STUCK: 5 in all, 2 since", 1 - 5, x.ask(0, 0));
    }

    @Says("1 MARK: 20 lent to all DEVICES: the SORT.")
    static void terms4_markOfADeviceIsTheSort() {
        FleetSlots x = ofEachKind();
        check.due("MARK", 4, x.ask(0, 1));
        check.dueTrace("MARK", x, 20);
    }

    @Says("21 of FRESH ones: what 20 gives, and WORTH.")
    static void terms4_markOfAFreshOneIsTheSortAndWorth() {
        FleetSlots x = ofEachKind();
        check.due("MARK", 5 + 103, x.ask(1, 1));
        check.dueTrace("MARK", x, 21, 20, 11, 10);
    }

    @Says("22 of STUCK ones: what 20 gives, and FUSE.")
    static void terms4_markOfAStuckOneIsTheSortAndFuse() {
        FleetSlots x = ofEachKind();
        check.due("MARK", 7 + 1, x.ask(3, 1));
        check.dueTrace("MARK", x, 22, 20);
    }

    @Says("(Of an ask the BODY told for the KIND begins, else that of the nearest KIND that it is, too, else the one that"
        + " is lent;")
    static void terms4_aSettledOnesMarkIsThatOfFreshOnes() {
        FleetSlots x = ofEachKind();
        x.ask(2, 1);
        check.due("21 begins, not 20", 21, x.trace(0));
        x.ask(0, 1);
        check.due("the one that is lent begins", 20, x.trace(0));
    }

    @Says("WORTH within another one is asked of the same DEVICE anew.)")
    static void terms4_worthWithinMarkIsByTheKindOfTheDevice() {
        FleetSlots x = ofEachKind();
        check.due("MARK of a SETTLED one", 6 + 206, x.ask(2, 1));
        check.dueTrace("12 begins within 21", x, 21, 20, 12, 11, 10);
    }

    // ---- Promise 21: kind

    @Says("The KIND of a DEVICE, as it is told.")
    static void promise21_answersEachKind() {
        FleetSlots x = ofEachKind();
        for (int d = 0; d < 4; d++) {
            check.due("kind(" + d + ")", d, x.kind(d));
        }
        check.due("one that comes with the latest", 4, x.device(0, 3, NONE));
        check.due("kind(4)", SETTLED, x.kind(4));
        check.due("one that comes with another", 5, x.device(0, 2, NONE));
        check.due("kind(5)", DEVICE, x.kind(5));
    }

    @Says("BAD.")
    static void promise21_aDeviceThatIsNotThereIsBad() {
        FleetSlots x = new FleetSlots();
        check.due("none at all", BAD, x.kind(0));
        x.version(1, 0, 0);
        x.device(0, 0, NONE);
        for (int d : new int[] {-1, 1, 30, NONE, MIN, MAX}) {
            check.due("kind(" + d + ")", BAD, x.kind(d));
        }
    }

    // ---- Promise 22: as

    @Says("A DEVICE is taken as one of a KIND (0 .. 3): its SORT.")
    static void promise22_asEachKindThatItIsItAnswersItsSort() {
        FleetSlots x = ofEachKind();
        int[][] kinds = {{DEVICE}, {DEVICE, FRESH}, {DEVICE, FRESH, SETTLED}, {DEVICE, STUCK}};
        for (int d = 0; d < 4; d++) {
            for (int kind : kinds[d]) {
                check.due("as(" + d + ", " + kind + ")", 4 + d, x.as(d, kind));
                check.due("status()", 0, x.status());
            }
        }
    }

    @Says("KIND: it is not that, too.")
    static void promise22_asAKindThatItIsNotItIsKind() {
        FleetSlots x = ofEachKind();
        int[][] kinds = {{FRESH, SETTLED, STUCK}, {SETTLED, STUCK}, {STUCK}, {FRESH, SETTLED}};
        for (int d = 0; d < 4; d++) {
            for (int kind : kinds[d]) {
                x.as(d, DEVICE);
                check.due("as(" + d + ", " + kind + ")", Check.KIND, x.as(d, kind));
                check.due("status()", 3, x.status());
            }
        }
    }

    @Says("BAD;")
    static void promise22_aDeviceThatIsNotThereIsBad() {
        FleetSlots x = ofEachKind();
        for (int d : new int[] {-1, 4, 30, MIN, MAX}) {
            check.due("as(" + d + ", 0)", BAD, x.as(d, 0));
        }
        check.due("status()", 0, x.status());
    }

    @Says("BAD;")
    static void promise22_kindsMinus1And4AreBad() {
        FleetSlots x = ofEachKind();
        x.as(0, FRESH);
        for (int kind : new int[] {-1, 4, MIN, MAX}) {
            check.due("as(0, " + kind + ")", BAD, x.as(0, kind));
            check.due("status() is not that of BAD", 3, x.status());
        }
    }

    // ---- Promise 23: ask

    @Says("An ASK (0, 1) of a DEVICE.")
    static void promise23_answers0WorthAnd1Mark() {
        FleetSlots x = ofEachKind();
        int[] worths = {1, 103, 206, -2};
        int[] marks = {4, 108, 212, 8};
        for (int d = 0; d < 4; d++) {
            check.due("ask(" + d + ", 0)", worths[d], x.ask(d, 0));
            check.due("ask(" + d + ", 1)", marks[d], x.ask(d, 1));
        }
    }

    @Says("BAD.")
    static void promise23_aDeviceThatIsNotThereIsBad() {
        FleetSlots x = ofEachKind();
        for (int d : new int[] {-1, 4, 30, MIN, MAX}) {
            check.due("ask(" + d + ", 0)", BAD, x.ask(d, 0));
            check.due("ask(" + d + ", 1)", BAD, x.ask(d, 1));
        }
    }

    @Says("BAD.")
    static void promise23_asksMinus1And2AreBad() {
        FleetSlots x = ofEachKind();
        for (int what : new int[] {-1, 2, MIN, MAX}) {
            check.due("ask(0, " + what + ")", BAD, x.ask(0, what));
        }
    }

    @Says("THE TRACE is empty ahead of it")
    static void promise23_eachAskBeginsWithAnEmptyTrace() {
        FleetSlots x = ofEachKind();
        for (int k = 0; k < 20; k++) {
            x.ask(2, 1);
            check.dueTrace("a long one", x, 21, 20, 12, 11, 10);
            x.ask(0, 0);
            check.dueTrace("a short one", x, 10);
        }
    }

    @Says("(where that is refused it stays).")
    static void promise23_whereItIsRefusedTheTraceStays() {
        FleetSlots x = ofEachKind();
        x.ask(3, 0);
        x.ask(-1, 0);
        check.dueTrace("behind ask(-1, 0)", x, 13, 10);
        x.ask(4, 1);
        check.dueTrace("behind ask(4, 1)", x, 13, 10);
        x.ask(0, -1);
        check.dueTrace("behind ask(0, -1)", x, 13, 10);
        x.ask(0, 2);
        check.dueTrace("behind ask(0, 2)", x, 13, 10);
    }

    // ---- Promise 24: trace

    @Says("Number i of THE TRACE;")
    static void promise24_answersNumberIFrom0On() {
        FleetSlots x = ofEachKind();
        x.ask(1, 1);
        int[] wants = {21, 20, 11, 10};
        for (int i = 0; i < wants.length; i++) {
            check.due("trace(" + i + ")", wants[i], x.trace(i));
        }
    }

    @Says("Number i of THE TRACE;")
    static void promise24_otherCallsLeaveTheTraceAsItIs() {
        FleetSlots x = ofEachKind();
        x.ask(2, 1);
        x.kind(0);
        x.as(0, 1);
        x.count(4);
        x.told(0, 0);
        Fleet.shares(x, 100);
        x.campaign(3, 0, 0, 1, 10);
        check.due("two are asked by a TICK", 2, x.tick(100000));
        x.version(1, 2, 0);
        x.update(0, 4);
        x.status();
        check.dueTrace("others", x, 21, 20, 12, 11, 10);
    }

    @Says("NONE.")
    static void promise24_beyondItsEndsItIsNone() {
        FleetSlots x = ofEachKind();
        for (int i : new int[] {-1, 0, 1, 15, 16, MIN, MAX}) {
            check.due("of an empty one: trace(" + i + ")", NONE, x.trace(i));
        }
        x.ask(0, 0);
        check.due("trace(0)", 10, x.trace(0));
        for (int i : new int[] {-1, 1, 15, 16, MIN, MAX}) {
            check.due("of one: trace(" + i + ")", NONE, x.trace(i));
        }
    }

    // ---- Promise 25: count

    @Says("How many: 0 SHEETS")
    static void promise25_what0IsTheSheetsThatAreThere() {
        FleetSlots x = new FleetSlots();
        for (int s = 0; s < 8; s++) {
            check.due("count(0)", s, x.count(0));
            x.sheet(s, s % 3, s);
        }
        check.due("all", 8, x.count(0));
        x.sheet(0, 0, 60);
        check.due("one in place of another", 8, x.count(0));
        x.drop(0);
        x.drop(0);
        check.due("one is dropped", 7, x.count(0));
    }

    @Says("1 VERSIONS")
    static void promise25_what1IsTheVersions() {
        FleetSlots x = new FleetSlots();
        for (int v = 0; v < 10; v++) {
            check.due("count(1)", v, x.count(1));
            x.version(1, 0, 0);
        }
        x.version(1, 0, 0);
        check.due("10", 10, x.count(1));
    }

    @Says("2 DEVICES")
    static void promise25_what2IsTheDevices() {
        FleetSlots x = Fleet.ofVersions(1);
        for (int d = 0; d < 30; d++) {
            check.due("count(2)", d, x.count(2));
            x.device(0, 0, NONE);
        }
        x.device(0, 0, NONE);
        check.due("30", 30, x.count(2));
    }

    @Says("3 ALIVE ones")
    static void promise25_what3IsAllDevicesAsAllAreAlive() {
        FleetSlots x = ofEachKind();
        check.due("all 4", 4, x.count(3));
        x.power(0, 3, 1);
        x.power(3, 3, 5);
        check.due("behind CUTS", 4, x.count(3));
        x.device(0, 0, NONE);
        check.due("one more", 5, x.count(3));
    }

    @Says("4 FRESH ones (SETTLED, too)")
    static void promise25_what4IsTheFreshAndTheSettledOnes() {
        FleetSlots x = ofEachKind();
        check.due("one FRESH, one SETTLED", 2, x.count(4));
        x.device(0, 3, NONE);
        check.due("one more SETTLED", 3, x.count(4));
        x.version(1, 2, 0);
        check.due("none is at the latest", 0, x.count(4));
        x.update(3, 4);
        check.due("one is", 1, x.count(4));
    }

    @Says("5 STUCK ones, as they are told")
    static void promise25_what5IsTheStuckOnes() {
        FleetSlots x = ofEachKind();
        check.due("one", 1, x.count(5));
        x.power(0, 3, 0);
        check.due("one that failed once is not", 1, x.count(5));
        x.power(0, 3, 0);
        check.due("one that failed twice is", 2, x.count(5));
        x.update(3, 3);
        check.due("FRESH ones are not", 1, x.count(5));
    }

    @Says("3 ALIVE ones, 4 FRESH ones (SETTLED, too), 5 STUCK ones, as they are told")
    static void promise25_ofAFullFleet() {
        FleetSlots x = Fleet.of30();
        check.due("all are ALIVE", 30, x.count(3));
        check.due("all are SETTLED", 30, x.count(4));
        check.due("none is STUCK", 0, x.count(5));
        x.version(1, 0, 255);
        for (int k = 0; k < 60; k++) {
            x.update(k % 30, 1);
        }
        check.due("all are ALIVE", 30, x.count(3));
        check.due("none is FRESH", 0, x.count(4));
        check.due("all are STUCK", 30, x.count(5));
    }

    @Says("6 STEPS.")
    static void promise25_what6IsTheSteps() {
        FleetSlots x = Fleet.ofVersions(10);
        int many = 0;
        for (int from = 0; from < 10; from++) {
            for (int to = from + 1; to < 10; to++) {
                check.due("count(6)", many, x.count(6));
                x.step(from, to, 5);
                many++;
            }
        }
        check.due("all", 45, x.count(6));
        x.step(0, 1, 6);
        x.step(1, 0, 6);
        check.due("one anew, one refused", 45, x.count(6));
    }

    @Says("BAD.")
    static void promise25_whatMinus1And7AreBad() {
        FleetSlots x = ofEachKind();
        for (int what : new int[] {-1, 7, MIN, MAX}) {
            check.due("count(" + what + ")", BAD, x.count(what));
        }
    }

    // ---- Promise 26: status

    @Says("0: it had none, or there was none.")
    static void promise26_0WhereThereWasNoSuchCall() {
        FleetSlots x = new FleetSlots();
        check.due("at first", 0, x.status());
        x.version(1, 0, 0);
        x.device(0, 0, NONE);
        x.tick(0);
        x.count(9);
        x.ask(0, 0);
        check.due("behind calls of other sorts", 0, x.status());
    }

    @Says("the number (1 to 5) of its FINDING;")
    static void promise26_each1To5() {
        FleetSlots x = ofEachKind();
        x.drop(0);
        check.due("NULL", 1, x.status());
        x.sheet(0, 0, 1);
        x.set(0, 1, 0);
        check.due("PLACE", 2, x.status());
        x.as(0, STUCK);
        check.due("KIND", 3, x.status());
        x.sheet(0, 0, -1);
        check.due("SIZE", 4, x.status());
        x.sheet(1, 1, 1);
        x.copy(0, 0, 1, 0, 1);
        check.due("STORE", 5, x.status());
        check.due("and again", 5, x.status());
    }

    /** A call that has no FINDING, each behind one that has. */
    @Says("Of the latest call with a SHEET, or as()")
    static void promise26_eachCallWithASheetThatHasNoneAnswers0() {
        FleetSlots x = ofEachKind();
        due0(x, 1, x.sheet(0, 0, 1));
        due0(x, 50, x.set(0, 0, 50));
        due0(x, 1, x.copy(0, 0, 0, 0, 1));
        due0(x, 2, x.campaign(1, 0, 0, 1, 0));
        due0(x, 4, x.as(0, DEVICE));
        due0(x, 1, x.drop(0));
    }

    private static void due0(FleetSlots x, int want, int got) {
        check.due("the call", want, got);
        check.due("status()", 0, x.status());
        x.set(7, 0, 0);
        check.due("status() behind NULL", 1, x.status());
    }

    @Says("Of the latest call with a SHEET, or as()")
    static void promise26_eachCallWithASheetThatHasOneAnswersIt() {
        FleetSlots x = ofEachKind();
        x.sheet(0, 0, -1);
        check.due("sheet()", 4, x.status());
        x.set(0, 0, 0);
        check.due("set()", 1, x.status());
        x.as(0, FRESH);
        check.due("as()", 3, x.status());
        x.copy(0, 0, 1, 0, 0);
        check.due("copy()", 1, x.status());
        x.as(0, FRESH);
        x.drop(0);
        check.due("drop()", 1, x.status());
        x.as(0, FRESH);
        x.campaign(0, 0, 0, 1, 0);
        check.due("campaign()", 1, x.status());
        Fleet.shares(x, 50);
        x.campaign(0, 0, 0, 2, 0);
        check.due("campaign()", 2, x.status());
    }

    @Says("that was not BAD, STATE, FULL:")
    static void promise26_oneThatWasBadDoesNotCount() {
        FleetSlots x = ofEachKind();
        Fleet.shares(x, 50, 50);
        x.as(0, STUCK);
        x.sheet(8, 0, 1);
        check.due("sheet()", 3, x.status());
        x.sheet(0, 0, 61);
        check.due("sheet()", 3, x.status());
        x.set(-1, 0, 0);
        check.due("set()", 3, x.status());
        x.copy(0, 0, 8, 0, 0);
        check.due("copy()", 3, x.status());
        x.drop(8);
        check.due("drop()", 3, x.status());
        x.as(0, 4);
        check.due("as()", 3, x.status());
        x.campaign(0, 0, 0, 2, 11);
        check.due("campaign()", 3, x.status());
        x.campaign(0, 0, 0, 2, 0);
        check.due("campaign() with shares that do not rise", 3, x.status());
        x.drop(0);
        x.as(9, 0);
        check.due("0 stays 0", 0, x.status());
    }

    @Says("Of the latest call with a SHEET, or as()")
    static void promise26_otherCallsDoNotCount() {
        FleetSlots x = ofEachKind();
        x.as(0, STUCK);
        x.version(1, 2, 0);
        x.version(0, 0, 0);
        x.step(0, 1, 5);
        x.path(0, 1, 0);
        x.on(0, 1, 0);
        x.device(0, 0, NONE);
        check.due("STATE", STATE, x.update(0, 0));
        x.told(0, 0);
        x.update(0, 2);
        x.acts(0, 3);
        x.power(0, 3, 0);
        x.cut(0, 3, 0, 0);
        x.seed(1);
        x.tick(0);
        x.runs(0);
        x.chance(1, 1, 1);
        x.kind(0);
        x.ask(0, 0);
        x.trace(0);
        x.count(0);
        check.due("status()", 3, x.status());
        for (int k = 0; k < 10; k++) {
            x.version(1, 2, 0);
        }
        check.due("FULL", Check.FULL, x.version(1, 2, 0));
        check.due("status()", 3, x.status());
    }
}
