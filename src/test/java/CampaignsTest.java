/** Promises 16 to 20: SEED, CAMPAIGNS, TICKS and CHANCES. */
public final class CampaignsTest {
    private static final int NONE = FleetSlots.NONE;
    private static final Check check = new Check("CampaignsTest");

    public static void main(String[] args) {
        seed();
        campaignRefused();
        campaignRefusedLate();
        campaignStatus();
        campaignInPlaceOfAnother();
        sharesAreThoseOfItsBegin();
        tickRefused();
        tickOfTheWaveThatIsOn();
        tickOfBudgets();
        tickEndsAtTheFirstTooDear();
        bytesOfPathsAndBlocks();
        hubsAheadOfLeaves();
        hubsThatFailHoldTheirLeaves();
        gateJustHolds();
        gateHalts();
        askedAnewInTheNextWave();
        emptyWaves();
        runsRefused();
        devicesAboveAreNotAsked();
        seedBetweenTicks();
        chance();
        chanceRefused();
        chancesAreCountedOneByOne();
        check.end();
    }

    /** VERSION 0 for all, VERSION 1 with so many BLOCKS; SEED 0: DRAWS 3 70 74 41 9 12 80 83 51 18 22 89. */
    private static FleetSlots fleet(int blocks, int ails, int devices) {
        FleetSlots x = new FleetSlots();
        x.version(1, 0, 0);
        x.version(blocks, 0, ails);
        for (int d = 0; d < devices; d++) {
            x.device(d % 8, 0, NONE);
        }
        return x;
    }

    private static void shares(FleetSlots x, int... shares) {
        x.sheet(0, 0, shares.length);
        for (int i = 0; i < shares.length; i++) {
            x.set(0, i, shares[i]);
        }
    }

    private static void seed() {
        FleetSlots x = fleet(1, 0, 12);
        check.due("seed(MIN)", 1, x.seed(Integer.MIN_VALUE));
        check.due("seed(65536)", 1, x.seed(65536));
        check.due("DRAW by another SEED", 4, x.told(0, 7));
        shares(x, 4);
        check.due("none below 4 now", 0, x.campaign(1, 0, 0, 1, 0));
        check.due("seed(0)", 1, x.seed(0));
        check.due("one below 4", 1, x.campaign(1, 0, 0, 1, 0));
    }

    private static void campaignRefused() {
        FleetSlots x = fleet(1, 0, 12);
        shares(x, 20, 60, 100);
        check.due("VERSION -1", Check.BAD, x.campaign(-1, 0, 0, 1, 0));
        check.due("VERSION 2", Check.BAD, x.campaign(2, 0, 0, 1, 0));
        check.due("SHEET -1", Check.BAD, x.campaign(1, -1, 0, 1, 0));
        check.due("SHEET 8", Check.BAD, x.campaign(1, 8, 0, 1, 0));
        check.due("0 WAVES", Check.BAD, x.campaign(1, 0, 0, 0, 0));
        check.due("7 WAVES", Check.BAD, x.campaign(1, 0, 0, 7, 0));
        check.due("gate -1", Check.BAD, x.campaign(1, 0, 0, 1, -1));
        check.due("gate 11", Check.BAD, x.campaign(1, 0, 0, 1, 11));
        check.due("BAD is ahead of NULL", Check.BAD, x.campaign(1, 1, 0, 1, 11));
        check.due("a SHEET that is missing", Check.NULL, x.campaign(1, 1, 0, 1, 0));
        check.due("NULL is ahead of PLACE", Check.NULL, x.campaign(1, 1, -1, 1, 0));
        check.due("from -1", Check.PLACE, x.campaign(1, 0, -1, 1, 0));
        check.due("beyond the end", Check.PLACE, x.campaign(1, 0, 1, 3, 0));
        check.due("beyond the end", Check.PLACE, x.campaign(1, 0, 3, 1, 0));
        check.due("from MAX", Check.PLACE, x.campaign(1, 0, Integer.MAX_VALUE, 6, 0));
        check.due("from MIN", Check.PLACE, x.campaign(1, 0, Integer.MIN_VALUE, 6, 0));
        check.due("no CAMPAIGN", Check.STATE, x.runs(0));
        check.due("the end fits: DRAWS below 60", 7, x.campaign(1, 0, 1, 2, 10));
    }

    private static void campaignRefusedLate() {
        int[][] wrong = {{0}, {101}, {-1}, {50, 50}, {50, 49}, {1, 2, 3, 4, 5, 5}, {20, 60, 101}, {0, 1}};
        for (int[] w : wrong) {
            FleetSlots x = fleet(1, 0, 12);
            shares(x, w);
            check.due("shares from " + w[0], Check.BAD, x.campaign(1, 0, 0, w.length, 5));
            check.due("no CAMPAIGN", Check.STATE, x.runs(0));
            x.sheet(1, 2, 3);
            check.due("PLACE is ahead of shares that are not so", Check.PLACE, x.campaign(1, 1, 0, 4, 5));
        }
        FleetSlots x = fleet(1, 0, 12);
        shares(x, 1, 2, 3, 4, 99, 100);
        check.due("6 WAVES", 0, x.campaign(1, 0, 0, 6, 5));
        check.due("one of 100", 12, x.campaign(1, 0, 5, 1, 5));
        x.sheet(1, 1, 1);
        x.set(1, 0, 356);
        check.due("a short of 356", Check.BAD, x.campaign(1, 1, 0, 1, 5));
        x.sheet(1, 0, 1);
        x.set(1, 0, 356);
        check.due("a byte of 356 is 100", 12, x.campaign(1, 1, 0, 1, 5));
    }

    private static void campaignStatus() {
        FleetSlots x = fleet(1, 0, 1);
        x.campaign(1, 3, 0, 1, 0);
        check.due("status() behind NULL", 1, x.status());
        shares(x, 100, 100);
        check.due("status() behind set", 0, x.status());
        x.campaign(1, 0, 2, 1, 0);
        check.due("status() behind PLACE", 2, x.status());
        x.campaign(1, 0, 0, 2, 0);
        check.due("status() is not that of a late BAD", 2, x.status());
        x.campaign(9, 0, 0, 1, 0);
        check.due("status() is not that of a BAD", 2, x.status());
        x.campaign(1, 0, 0, 1, 0);
        check.due("status() behind one that begins", 0, x.status());
    }

    private static void campaignInPlaceOfAnother() {
        FleetSlots x = fleet(3, 4, 12);
        shares(x, 20, 100);
        check.due("the first", 4, x.campaign(1, 0, 0, 2, 10));
        x.tick(100000);
        x.tick(100000);
        x.tick(100000);
        check.dueRuns("in WAVE 1", x, 1, 8, 2, 0, 3600, 10);
        check.due("a refused one", Check.BAD, x.campaign(1, 0, 0, 2, 11));
        check.due("a refused one", Check.PLACE, x.campaign(1, 0, 1, 2, 10));
        check.dueRuns("in WAVE 1 still", x, 1, 8, 2, 0, 3600, 10);
        check.due("the new one", 12, x.campaign(1, 0, 1, 1, 10));
        check.dueRuns("the new one", x, 0, 0, 0, 0, 0, 10);
        check.due("tick", 2, x.tick(100000));
        check.dueRuns("asked anew", x, 0, 2, 2, 0, 600, 10);
    }

    private static void sharesAreThoseOfItsBegin() {
        FleetSlots x = fleet(1, 0, 12);
        shares(x, 20, 60);
        x.campaign(1, 0, 0, 2, 0);
        x.set(0, 0, 100);
        x.set(0, 1, 100);
        check.due("the first WAVE", 4, x.tick(100000));
        x.drop(0);
        check.due("its end", 0, x.tick(100000));
        check.due("the next WAVE", 3, x.tick(100000));
    }

    private static void tickRefused() {
        FleetSlots x = fleet(1, 0, 1);
        check.due("tick(-1)", Check.BAD, x.tick(-1));
        check.due("tick(100001)", Check.BAD, x.tick(100001));
        check.due("tick(0)", Check.STATE, x.tick(0));
        shares(x, 100);
        x.campaign(1, 0, 0, 1, 0);
        check.due("tick(-1)", Check.BAD, x.tick(-1));
        check.due("tick(100001)", Check.BAD, x.tick(100001));
        check.dueRuns("nothing changed", x, 0, 0, 0, 0, 0, 0);
        check.due("tick(100000)", 1, x.tick(100000));
        check.due("the end", 0, x.tick(0));
        check.due("it is over", Check.STATE, x.tick(0));
        check.due("BAD is ahead of STATE", Check.BAD, x.tick(-1));
        check.dueRuns("over", x, 0, 1, 0, 2, 100, 1);
    }

    private static void tickOfTheWaveThatIsOn() {
        FleetSlots x = fleet(1, 0, 12);
        shares(x, 9, 12, 100);
        check.due("DRAW below 9", 1, x.campaign(1, 0, 0, 3, 0));
        check.due("WAVE 0", 1, x.tick(100000));
        check.dueTold("DRAW 3", x, 0, 1);
        check.dueTold("DRAW 9", x, 4, 0);
        check.due("its end", 0, x.tick(100000));
        check.dueRuns("WAVE 1", x, 1, 0, 0, 0, 100, 1);
        check.due("WAVE 1", 1, x.tick(100000));
        check.dueTold("DRAW 9", x, 4, 1);
        check.dueTold("DRAW 12", x, 5, 0);
        check.due("its end", 0, x.tick(100000));
        check.due("WAVE 2", 10, x.tick(100000));
        check.dueRuns("WAVE 2", x, 2, 10, 0, 0, 1200, 12);
        check.due("its end", 0, x.tick(100000));
        check.dueRuns("over", x, 2, 10, 0, 2, 1200, 12);
        check.due("over", Check.STATE, x.tick(100000));
    }

    private static void tickOfBudgets() {
        FleetSlots x = fleet(2, 0, 4);
        shares(x, 100);
        x.campaign(1, 0, 0, 1, 0);
        check.due("tick(199)", 0, x.tick(199));
        check.dueRuns("too small", x, 0, 0, 0, 0, 0, 0);
        check.due("tick(0)", 0, x.tick(0));
        check.due("tick(200)", 1, x.tick(200));
        check.due("tick(399)", 1, x.tick(399));
        check.due("tick(401)", 2, x.tick(401));
        check.dueRuns("all", x, 0, 4, 0, 0, 800, 4);
        check.due("tick(0) ends it", 0, x.tick(0));
        check.due("over", 2, x.runs(3));
    }

    private static void tickEndsAtTheFirstTooDear() {
        FleetSlots x = new FleetSlots();
        x.version(1, 0, 0);
        x.version(1, 0, 0);
        x.version(8, 0, 0);
        x.step(0, 2, 50);
        x.step(1, 2, 500);
        x.device(0, 0, NONE);
        x.device(0, 1, NONE);
        x.device(0, 0, NONE);
        shares(x, 100);
        x.campaign(2, 0, 0, 1, 0);
        check.due("the second is too dear", 1, x.tick(500));
        check.dueTold("the third waits", x, 2, 0);
        check.due("the second first", 1, x.tick(549));
        check.due("then the third", 1, x.tick(50));
        check.dueRuns("all", x, 0, 3, 0, 0, 600, 3);
    }

    private static void bytesOfPathsAndBlocks() {
        FleetSlots x = new FleetSlots();
        for (int v = 0; v < 4; v++) {
            x.version(v + 1, 0, 0);
        }
        x.step(0, 1, 30);
        x.step(1, 3, 31);
        x.step(0, 3, 1000);
        x.device(0, 0, NONE);
        x.device(0, 1, NONE);
        x.device(0, 2, NONE);
        shares(x, 100);
        x.campaign(3, 0, 0, 1, 0);
        check.due("the first", 1, x.tick(61));
        check.due("by two STEPS", 61, x.runs(4));
        check.due("the second", 1, x.tick(31));
        check.due("by one STEP", 92, x.runs(4));
        check.due("the third, too dear", 0, x.tick(399));
        check.due("the third", 1, x.tick(400));
        check.due("by all BLOCKS", 492, x.runs(4));
    }

    /** DRAWS 3 70 74 41 9: a leaf goes in the TICK of its HUB, and waits for a HUB that is of no WAVE yet. */
    private static void hubsAheadOfLeaves() {
        FleetSlots x = new FleetSlots();
        x.version(1, 0, 0);
        x.version(1, 0, 0);
        x.device(0, 0, NONE);
        x.device(0, 0, 0);
        x.device(0, 0, 1);
        x.device(0, 0, 2);
        x.device(0, 0, 1);
        shares(x, 42, 71, 100);
        check.due("3, 41, 9", 3, x.campaign(1, 0, 0, 3, 0));
        check.due("leaves 3, 4 wait", 1, x.tick(100000));
        check.due("the end", 0, x.tick(100000));
        check.due("1, and 4 behind it", 2, x.tick(100000));
        check.due("the end", 0, x.tick(100000));
        check.due("2, and 3 behind it", 2, x.tick(100000));
        check.due("the end", 0, x.tick(100000));
        check.dueRuns("over", x, 2, 2, 0, 2, 500, 5);
    }

    private static void hubsThatFailHoldTheirLeaves() {
        FleetSlots x = new FleetSlots();
        x.version(1, 0, 0);
        x.version(1, 0, 1);
        x.version(1, 0, 0);
        x.device(0, 0, NONE);
        x.device(1, 0, 0);
        x.device(2, 2, 0);
        x.device(2, 0, 2);
        shares(x, 100);
        x.campaign(1, 0, 0, 1, 10);
        check.due("0 fails, 3 is behind one above", 2, x.tick(100000));
        check.dueTold("the leaf waits", x, 1, 0);
        check.dueTold("behind a HUB that is above", x, 3, 1);
        check.due("the end", 0, x.tick(100000));
        check.dueRuns("over", x, 0, 2, 1, 2, 200, 2);
    }

    /** 2 of 10 fail. */
    private static void gateJustHolds() {
        FleetSlots x = fleet(1, 2, 10);
        shares(x, 100);
        x.campaign(1, 0, 0, 1, 2);
        check.due("all", 10, x.tick(100000));
        check.due("h", 2, x.runs(2));
        check.due("the end", 0, x.tick(100000));
        check.dueRuns("20 is not above 20", x, 0, 10, 2, 2, 1000, 8);
    }

    private static void gateHalts() {
        FleetSlots x = fleet(1, 2, 10);
        shares(x, 99, 100);
        x.campaign(1, 0, 0, 2, 1);
        check.due("all", 10, x.tick(100000));
        check.due("the end", 0, x.tick(100000));
        check.dueRuns("20 is above 10", x, 0, 10, 2, 1, 1000, 8);
        check.due("HALTED", Check.STATE, x.tick(100000));
        check.due("HALTED", Check.BAD, x.tick(100001));
        x.campaign(1, 0, 1, 1, 10);
        check.due("a new one runs", 2, x.tick(100000));
    }

    private static void askedAnewInTheNextWave() {
        FleetSlots x = fleet(1, 1, 9);
        shares(x, 4, 52);
        check.due("DEVICE 0", 1, x.campaign(1, 0, 0, 2, 10));
        check.due("it fails", 1, x.tick(100000));
        check.due("not asked twice", 0, x.tick(100000));
        check.due("0, 3, 4, 5, 8", 5, x.tick(100000));
        check.dueRuns("0 and 8 failed", x, 1, 5, 2, 0, 600, 3);
        check.due("fails of 0", 2, x.told(0, 6));
        check.due("fails of 8", 1, x.told(8, 6));
    }

    private static void emptyWaves() {
        FleetSlots x = fleet(1, 0, 1);
        shares(x, 1, 2, 3, 100);
        check.due("none", 0, x.campaign(1, 0, 0, 4, 0));
        for (int wave = 0; wave < 3; wave++) {
            check.due("WAVE", wave, x.runs(0));
            check.due("none", 0, x.tick(0));
        }
        check.dueRuns("the last WAVE", x, 3, 0, 0, 0, 0, 0);
        check.due("one", 1, x.tick(100));
        FleetSlots y = fleet(1, 0, 0);
        shares(y, 100);
        check.due("no DEVICES", 0, y.campaign(0, 0, 0, 1, 0));
        check.due("its end", 0, y.tick(0));
        check.dueRuns("over", y, 0, 0, 0, 2, 0, 0);
    }

    private static void runsRefused() {
        FleetSlots x = fleet(1, 0, 1);
        check.due("no CAMPAIGN", Check.STATE, x.runs(5));
        check.due("BAD is ahead of STATE", Check.BAD, x.runs(6));
        check.due("BAD is ahead of STATE", Check.BAD, x.runs(-1));
        shares(x, 100);
        x.campaign(1, 0, 0, 1, 0);
        check.due("runs(6)", Check.BAD, x.runs(6));
        check.due("runs(-1)", Check.BAD, x.runs(-1));
        check.dueRuns("at first", x, 0, 0, 0, 0, 0, 0);
    }

    private static void devicesAboveAreNotAsked() {
        FleetSlots x = fleet(1, 0, 3);
        x.version(1, 0, 0);
        x.update(0, 1);
        x.update(1, 2);
        shares(x, 100);
        check.due("all are of the WAVE", 3, x.campaign(1, 0, 0, 1, 0));
        check.due("at its VERSION or above", 2, x.runs(5));
        check.due("only one is below", 1, x.tick(100000));
        check.dueTold("above", x, 1, 2);
        check.due("at its VERSION or above", 3, x.runs(5));
        check.due("a DEVICE that comes", 3, x.device(0, 0, 1));
        check.due("is asked too", 1, x.tick(100000));
        x.device(0, 0, NONE);
        x.update(4, 2);
        check.due("one that got there alone", 5, x.runs(5));
        check.due("the end", 0, x.tick(100000));
        check.dueRuns("over", x, 0, 2, 0, 2, 200, 5);
    }

    private static void seedBetweenTicks() {
        FleetSlots x = fleet(1, 0, 1);
        shares(x, 4, 100);
        check.due("DRAW 3", 1, x.campaign(1, 0, 0, 2, 0));
        x.seed(65536);
        check.due("DRAW 4 now", 0, x.tick(100000));
        check.due("the next WAVE", 1, x.runs(0));
    }

    private static void chance() {
        check.due("chance(1, 0, 0)", 10, new FleetSlots().chance(1, 0, 0));
        check.due("chance(1, 10, 9)", 0, new FleetSlots().chance(1, 10, 9));
        check.due("chance(1, 10, 10)", 10, new FleetSlots().chance(1, 10, 10));
        check.due("chance(2, 5, 5)", 75, new FleetSlots().chance(2, 5, 5));
        check.due("chance(3, 1, 0)", 729, new FleetSlots().chance(3, 1, 0));
        check.due("chance(12, 0, 0)", 1000000000000L, new FleetSlots().chance(12, 0, 0));
        check.due("chance(12, 9, 10)", 1000000000000L, new FleetSlots().chance(12, 9, 10));
        check.due("chance(12, 5, 0)", 244140625L, new FleetSlots().chance(12, 5, 0));
        check.due("chance(10, 3, 3)", 6496107184L, new FleetSlots().chance(10, 3, 3));
    }

    private static void chanceRefused() {
        FleetSlots x = new FleetSlots();
        int[][] wrong = {{0, 0, 0}, {13, 0, 0}, {-1, 0, 0}, {1, -1, 0}, {1, 11, 0}, {1, 0, -1}, {1, 0, 11},
            {Integer.MAX_VALUE, 0, 0}, {1, Integer.MIN_VALUE, 0}};
        for (int[] w : wrong) {
            check.due("chance(" + w[0] + ", " + w[1] + ", " + w[2] + ")", Check.BAD, x.chance(w[0], w[1], w[2]));
        }
    }

    /** Each number below 10 to the power m is a case: its digits below t are the DEVICES that fail. */
    private static void chancesAreCountedOneByOne() {
        FleetSlots x = new FleetSlots();
        int cases = 1;
        for (int m = 1; m <= 4; m++) {
            cases *= 10;
            for (int t = 0; t <= 10; t++) {
                for (int gate = 0; gate <= 10; gate++) {
                    check.due("chance(" + m + ", " + t + ", " + gate + ")", counted(cases, m, t, gate),
                        x.chance(m, t, gate));
                }
            }
        }
    }

    private static long counted(int cases, int m, int t, int gate) {
        long held = 0;
        for (int k = 0; k < cases; k++) {
            int fails = 0;
            for (int rest = k, d = 0; d < m; d++, rest /= 10) {
                fails += rest % 10 < t ? 1 : 0;
            }
            held += fails * 10 > gate * m ? 0 : 1;
        }
        return held;
    }
}
