/** Promises 16 to 20, and of the Terms what they say of CAMPAIGNS, DRAWS, TICKS and CHANCES. */
public final class CampaignsTest {
    private static final Check check = new Check(CampaignsTest.class);
    private static final int BAD = Check.BAD, STATE = Check.STATE, NONE = Check.NONE;
    private static final int NULL = Check.NULL, PLACE = Check.PLACE, MAX = Check.MAX, MIN = Check.MIN;
    private static final int ALL = 100000;
    private static final int RUNS = 0, HALTED = 1, OVER = 2;

    public static void main(String[] args) throws IllegalAccessException {
        check.runAll();
    }

    /**
     * VERSION 0 for all, VERSION 1 of so many BLOCKS that AILS on a set of SORTS; SORTS 0 1 2 .. 7 0 1 ..
     * DRAWS with SEED 0: 3 70 74 41 9 12 80 83 51 18 22 89.
     */
    private static FleetSlots fleet(int blocks, int ails, int devices) {
        FleetSlots x = new FleetSlots();
        x.version(1, 0, 0);
        x.version(blocks, 0, ails);
        for (int d = 0; d < devices; d++) {
            x.device(d % 8, 0, NONE);
        }
        return x;
    }

    /** The CAMPAIGN to VERSION 1 with these shares, in SHEET 0. */
    private static int begin(FleetSlots x, int gate, int... shares) {
        Fleet.shares(x, shares);
        return x.campaign(1, 0, 0, shares.length, gate);
    }

    // ---- Terms: CAMPAIGNS

    @Says("A CAMPAIGN: to a VERSION, with WAVES, shares by 100 (1 to 6 of them")
    static void terms3_aCampaignHas1To6Waves() {
        FleetSlots x = fleet(1, 0, 12);
        Fleet.shares(x, 10, 20, 30, 40, 50, 60, 70);
        check.due("0 WAVES", BAD, x.campaign(1, 0, 0, 0, 0));
        check.due("7 WAVES", BAD, x.campaign(1, 0, 0, 7, 0));
        check.due("1 WAVE", 2, x.campaign(1, 0, 0, 1, 0));
        x.tick(ALL);
        x.tick(ALL);
        check.dueRuns("over behind 1", x, 0, 2, 0, OVER);
        check.due("6 WAVES", 2, x.campaign(0, 0, 0, 6, 0));
        for (int wave = 0; wave < 6; wave++) {
            check.dueRuns("WAVE " + wave, x, wave, 0, 0, RUNS);
            check.due("its end", 0, x.tick(ALL));
        }
        check.dueRuns("over behind 6", x, 5, 0, 0, OVER);
    }

    @Says("1 to 100")
    static void terms3_aShareIs1To100() {
        FleetSlots x = fleet(1, 0, 12);
        check.due("0", BAD, begin(x, 0, 0));
        check.due("101", BAD, begin(x, 0, 101));
        check.due("1", 0, begin(x, 0, 1));
        check.due("100", 12, begin(x, 0, 100));
    }

    @Says("each above the one ahead)")
    static void terms3_eachShareIsAboveTheOneAhead() {
        FleetSlots x = fleet(1, 0, 12);
        check.due("50 50", BAD, begin(x, 0, 50, 50));
        check.due("50 49", BAD, begin(x, 0, 50, 49));
        check.due("50 51", 6, begin(x, 0, 50, 51));
    }

    @Says("and a gate of f by 10.")
    static void terms3_aGateIsByTenths() {
        for (int gate = 0; gate <= 10; gate++) {
            FleetSlots x = fleet(1, 8 + 16 + 32 + 64 + 128, 8);
            begin(x, gate, 100);
            check.due("5 of 8 fail", 8, x.tick(ALL));
            x.tick(ALL);
            check.dueRuns("50 against 8 times " + gate, x, 0, 8, 5, gate >= 7 ? OVER : HALTED);
        }
    }

    @Says("DRAW of a DEVICE: (its number plus 1) times 2654435761 plus SEED (32 bits), as a long, its bits 16 to 31,"
        + " modulo 100.")
    static void terms3_drawOfEachDeviceByEachSeed() {
        FleetSlots x = Fleet.of30();
        int[] seeds = {0, 1, 7, 65535, 65536, -1, -65536, 123456789, MIN, MAX};
        for (int z : seeds) {
            x.seed(z);
            for (int d = 0; d < 30; d++) {
                check.due("DRAW of " + d + " by SEED " + z, DevicesTest.bigDraw(d, z), x.told(d, 7));
            }
        }
    }

    @Says("A DEVICE is of a WAVE, if its DRAW is below the share")
    static void terms3_aDrawJustBelowTheShareIsOfTheWave() {
        FleetSlots x = fleet(1, 0, 1);
        check.due("DRAW 3, share 3", 0, begin(x, 0, 3, 100));
        check.due("none is asked", 0, x.tick(ALL));
        check.due("DRAW 3, share 4", 1, begin(x, 0, 4, 100));
        check.due("one is asked", 1, x.tick(ALL));
    }

    @Says("A DEVICE is of a WAVE, if its DRAW is below the share")
    static void terms3_draw0IsOfAShareOf1Draw99OnlyOfOneOf100() {
        FleetSlots x = Fleet.of30();
        x.seed(65536 * 11);
        check.due("DRAW of 11", 0, x.told(11, 7));
        check.due("DRAW of 28", 99, x.told(28, 7));
        int[][] rows = {{1, 1}, {99, 29}, {100, 30}};
        for (int[] row : rows) {
            Fleet.shares(x, row[0]);
            check.due("share " + row[0], row[1], x.campaign(0, 0, 0, 1, 0));
        }
    }

    @Says("(so of each later one, too).")
    static void terms3_itIsOfEachLaterWaveToo() {
        FleetSlots x = fleet(1, 1, 1);
        begin(x, 10, 4, 5, 100);
        for (int wave = 0; wave < 3; wave++) {
            check.due("WAVE " + wave + " asks it, and it fails", 1, x.tick(ALL));
            check.due("the end", 0, x.tick(ALL));
        }
        check.due("failed", 3, x.told(0, 6));
    }

    // ---- Terms: TICKS

    @Says("A TICK of the CAMPAIGN (if it is neither halted nor over):")
    static void terms3_aCampaignThatIsHaltedOrOverHasNoTicks() {
        FleetSlots x = fleet(1, 1, 1);
        begin(x, 0, 4, 100);
        x.tick(ALL);
        x.tick(ALL);
        check.due("HALTED", HALTED, x.runs(3));
        check.due("tick", STATE, x.tick(ALL));
        check.due("not asked", 1, x.told(0, 6));
        begin(x, 10, 100);
        x.tick(ALL);
        x.tick(ALL);
        check.due("over", OVER, x.runs(3));
        check.due("tick", STATE, x.tick(ALL));
        check.due("not asked", 2, x.told(0, 6));
    }

    @Says("DEVICES of the WAVE that is on")
    static void terms3_aTickAsksThoseOfTheWaveThatIsOn() {
        FleetSlots x = fleet(1, 0, 12);
        check.due("DRAW below 9", 1, begin(x, 0, 9, 12, 100));
        check.due("WAVE 0: DRAW 3", 1, x.tick(ALL));
        check.dueTold("DRAW 3", x, 0, 1);
        check.dueTold("DRAW 9", x, 4, 0);
        x.tick(ALL);
        check.due("WAVE 1: DRAW 9", 1, x.tick(ALL));
        check.dueTold("DRAW 9", x, 4, 1);
        check.dueTold("DRAW 12", x, 5, 0);
        x.tick(ALL);
        check.due("WAVE 2: all others", 10, x.tick(ALL));
        check.dueTold("DRAW 89", x, 11, 1);
    }

    @Says("DEVICES of the WAVE that is on")
    static void terms3_aDeviceThatComesWhileTheWaveIsOnIsAskedInIt() {
        FleetSlots x = fleet(1, 0, 1);
        begin(x, 0, 71);
        check.due("the first", 1, x.tick(ALL));
        check.due("DRAW 70 comes", 1, x.device(0, 0, NONE));
        check.due("DRAW 74 comes", 2, x.device(0, 0, NONE));
        check.due("the one of DRAW 70", 1, x.tick(ALL));
        check.due("none", 0, x.tick(ALL));
        check.dueRuns("over", x, 0, 2, 0, OVER, 200, 2);
    }

    @Says("by numbers")
    static void terms3_aTickAsksThemByNumbers() {
        FleetSlots x = fleet(1, 0, 12);
        begin(x, 0, 100);
        for (int d = 0; d < 12; d++) {
            check.dueTold("not yet", x, d, 0);
            check.due("one more", 1, x.tick(199));
            check.dueTold("the next", x, d, 1);
        }
    }

    @Says("that are not at the VERSION or above")
    static void terms3_thoseAtTheVersionOrAboveAreNotAsked() {
        FleetSlots x = fleet(1, 0, 3);
        x.version(1, 0, 0);
        x.update(0, 1);
        x.update(1, 2);
        check.due("all are of the WAVE", 3, begin(x, 0, 100));
        check.due("only the one below is asked", 1, x.tick(ALL));
        check.dueTold("at it", x, 0, 1, 1, 0);
        check.dueTold("above it", x, 1, 2, 1, 0);
        check.dueTold("below it", x, 2, 1, 1, 0);
        check.dueRuns("one", x, 0, 1, 0, RUNS, 100, 3);
    }

    @Says("were not asked in this WAVE yet")
    static void terms3_whatWasAskedIsNotAskedAgainInThisWave() {
        FleetSlots x = fleet(1, 1 + 4, 4);
        begin(x, 10, 100);
        check.due("0, 1", 2, x.tick(299));
        check.due("2, 3, not 0", 2, x.tick(ALL));
        check.due("failed", 1, x.told(0, 6));
        check.due("failed", 1, x.told(2, 6));
        check.due("none", 0, x.tick(ALL));
        check.due("failed", 1, x.told(0, 6));
    }

    @Says("were not asked in this WAVE yet")
    static void terms3_inTheNextWaveItIsAskedAnew() {
        FleetSlots x = fleet(1, 1, 9);
        check.due("DEVICE 0", 1, begin(x, 10, 4, 52));
        check.due("it fails", 1, x.tick(ALL));
        check.due("the end", 0, x.tick(ALL));
        check.due("0, 3, 4, 5, 8", 5, x.tick(ALL));
        check.dueRuns("0 and 8 failed", x, 1, 5, 2, RUNS, 600, 3);
        check.due("failed", 2, x.told(0, 6));
        check.due("failed", 1, x.told(8, 6));
    }

    @Says("and have no HUB below the VERSION (as it is when it is their turn):")
    static void terms3_aLeafGoesInTheTickOfItsHub() {
        FleetSlots x = Fleet.ofVersions(2);
        x.device(0, 0, NONE);
        x.device(0, 0, 0);
        x.device(0, 0, 1);
        begin(x, 0, 100);
        check.due("each behind the one ahead", 3, x.tick(ALL));
        check.due("all", 3, x.runs(5));
    }

    @Says("and have no HUB below the VERSION")
    static void terms3_aLeafWaitsForAHubOfALaterWave() {
        FleetSlots x = Fleet.ofVersions(2);
        x.device(0, 0, NONE);
        x.device(0, 0, 0);
        x.device(0, 0, 1);
        x.device(0, 0, 2);
        x.device(0, 0, 1);
        check.due("DRAWS 3, 41, 9", 3, begin(x, 0, 42, 71, 100));
        check.due("3 and 4 wait for 2 and 1", 1, x.tick(ALL));
        check.due("the end", 0, x.tick(ALL));
        check.due("1, and 4 behind it", 2, x.tick(ALL));
        check.due("the end", 0, x.tick(ALL));
        check.due("2, and 3 behind it", 2, x.tick(ALL));
        check.due("the end", 0, x.tick(ALL));
        check.dueRuns("over", x, 2, 2, 0, OVER, 500, 5);
    }

    @Says("and have no HUB below the VERSION")
    static void terms3_aHubThatFailsHoldsItsLeaf() {
        FleetSlots x = Fleet.ofVersions(1);
        x.version(1, 0, 1);
        x.device(0, 0, NONE);
        x.device(1, 0, 0);
        begin(x, 10, 100);
        check.due("the HUB alone", 1, x.tick(ALL));
        check.dueTold("the leaf waits", x, 1, 0, 0, NONE);
        check.due("the end", 0, x.tick(ALL));
        check.dueRuns("over", x, 0, 1, 1, OVER, 100, 0);
    }

    @Says("and have no HUB below the VERSION")
    static void terms3_aHubAtTheVersionOrAboveHoldsNone() {
        FleetSlots x = Fleet.ofVersions(3);
        x.device(0, 1, NONE);
        x.device(0, 2, NONE);
        x.device(0, 0, 0);
        x.device(0, 0, 1);
        begin(x, 0, 100);
        check.due("both leaves", 2, x.tick(ALL));
        check.dueTold("behind one at it", x, 2, 1);
        check.dueTold("behind one above it", x, 3, 1);
    }

    @Says("each, as long as the BUDGET of the TICK has the bytes of the PATH from what is ON")
    static void terms3_aTickSendsTheBytesOfThePath() {
        FleetSlots x = Fleet.ofVersions(4);
        x.step(0, 1, 30);
        x.step(1, 3, 31);
        x.step(0, 3, 1000);
        x.device(0, 0, NONE);
        x.device(0, 1, NONE);
        Fleet.shares(x, 100);
        x.campaign(3, 0, 0, 1, 0);
        check.due("60 are too few", 0, x.tick(60));
        check.due("61 are not", 1, x.tick(61));
        check.due("by two STEPS", 61, x.runs(4));
        check.due("30 are too few", 0, x.tick(30));
        check.due("31 are not", 1, x.tick(31));
        check.due("by one STEP", 92, x.runs(4));
    }

    @Says("the bytes of the PATH from what is ON")
    static void terms3_thePathIsThatOfTheMomentAndOfWhatIsOn() {
        FleetSlots x = Fleet.ofVersions(3);
        Fleet.devices(x, 3);
        x.step(1, 2, 7);
        Fleet.shares(x, 100);
        x.campaign(2, 0, 0, 1, 0);
        check.due("no PATH from 0: all BLOCKS", 1, x.tick(100));
        check.due("sent", 100, x.runs(4));
        x.step(0, 1, 9);
        check.due("a PATH from 0 by 1", 1, x.tick(16));
        check.due("sent", 116, x.runs(4));
        x.update(2, 1);
        check.due("a PATH from 1", 1, x.tick(7));
        check.due("sent", 123, x.runs(4));
    }

    @Says("(where there is none: all BLOCKS, 100 bytes each)")
    static void terms3_withoutAPathItSendsAllBlocks() {
        for (int blocks = 1; blocks <= 8; blocks++) {
            FleetSlots x = fleet(blocks, 0, 1);
            begin(x, 0, 100);
            check.due("too few", 0, x.tick(100 * blocks - 1));
            check.due("not asked", 0, x.told(0, 0));
            check.due("enough", 1, x.tick(100 * blocks));
            check.due("sent", 100 * blocks, x.runs(4));
        }
    }

    @Says("which go off")
    static void terms3_whatIsSentGoesOffTheBudgetOfTheTick() {
        FleetSlots x = fleet(2, 2, 4);
        begin(x, 10, 100);
        check.due("399 is for one", 1, x.tick(399));
        check.due("401 is for two, one of which fails", 2, x.tick(401));
        check.due("sent to the one that failed, too", 600, x.runs(4));
        check.due("what was left does not stay", 0, x.tick(199));
        check.due("200 is for one", 1, x.tick(200));
        check.due("all sent", 800, x.runs(4));
    }

    @Says("is UPDATED at once to the end, and asked.")
    static void terms3_eachThatIsAskedIsUpdatedToTheEnd() {
        FleetSlots x = fleet(3, 2, 2);
        begin(x, 10, 100);
        check.due("two", 2, x.tick(ALL));
        check.dueTold("TAKEN", x, 0, 1, 1, 0, 1, 0, 0, 0);
        check.dueTold("failed", x, 1, 0, 0, 1, 3, 0, 0, 1);
    }

    @Says("The first for which the BUDGET is too small ends the TICK.")
    static void terms3_behindTheFirstThatIsTooDearNoneIsAsked() {
        FleetSlots x = Fleet.ofVersions(2);
        x.version(8, 0, 0);
        x.step(0, 2, 50);
        x.step(1, 2, 500);
        x.device(0, 0, NONE);
        x.device(0, 1, NONE);
        x.device(0, 0, NONE);
        Fleet.shares(x, 100);
        x.campaign(2, 0, 0, 1, 0);
        check.due("the second is too dear", 1, x.tick(549));
        check.dueTold("the third waits", x, 2, 0);
        check.due("again", 0, x.tick(499));
        check.dueTold("the third waits", x, 2, 0);
        check.due("the second, not the third", 1, x.tick(549));
        check.due("then the third", 1, x.tick(50));
        check.dueRuns("all", x, 0, 3, 0, RUNS, 600, 3);
    }

    @Says("A TICK in which none was asked")
    static void terms3_aTickInWhichNoneWasAskedEndsTheWave() {
        FleetSlots x = fleet(1, 0, 1);
        begin(x, 0, 4, 100);
        check.due("one", 1, x.tick(ALL));
        check.dueRuns("not its end", x, 0, 1, 0, RUNS);
        check.due("none", 0, x.tick(0));
        check.dueRuns("its end", x, 1, 0, 0, RUNS);
    }

    @Says("(and no BUDGET was too small) ends the WAVE:")
    static void terms3_aBudgetThatIsTooSmallDoesNotEndTheWave() {
        FleetSlots x = fleet(1, 0, 2);
        begin(x, 0, 100);
        for (int k = 0; k < 3; k++) {
            check.due("too small", 0, x.tick(99));
            check.due("0", 0, x.tick(0));
            check.dueRuns("not its end", x, 0, 0, 0, RUNS, 0, 0);
        }
        check.due("one", 1, x.tick(100));
        check.due("too small for the other one", 0, x.tick(99));
        check.dueRuns("not its end", x, 0, 1, 0, RUNS, 100, 1);
    }

    @Says("of those asked in it m, h of which failed: if h times 10 is above f times m, the CAMPAIGN is HALTED;")
    static void terms3_justAtTheGateItIsNotHaltedJustAboveItIs() {
        for (int gate = 1; gate <= 2; gate++) {
            FleetSlots x = fleet(1, 2, 10);
            begin(x, gate, 99, 100);
            check.due("10, 2 of which fail", 10, x.tick(ALL));
            check.due("the end", 0, x.tick(ALL));
            check.dueRuns("20 against 10 times " + gate, x, gate - 1, gate == 1 ? 10 : 0, gate == 1 ? 2 : 0,
                gate == 1 ? HALTED : RUNS);
        }
    }

    @Says("of those asked in it m, h of which failed")
    static void terms3_theGateOfAWaveCountsThoseOfThisWaveAlone() {
        FleetSlots x = fleet(1, 8, 12);
        check.due("DRAWS 3, 9, 12, 18, 22", 5, begin(x, 2, 23, 42, 100));
        check.due("none of 5 fails", 5, x.tick(ALL));
        check.due("the end", 0, x.tick(ALL));
        check.due("DRAW 41", 1, x.tick(ALL));
        check.dueRuns("1 of 1 fails", x, 1, 1, 1, RUNS);
        check.due("the end", 0, x.tick(ALL));
        check.dueRuns("1 of 1 is above 2 by 10, 1 of 6 is not", x, 1, 1, 1, HALTED);
    }

    @Says("if h times 10 is above f times m")
    static void terms3_aWaveInWhichNoneWasAskedIsNotHalted() {
        FleetSlots x = fleet(1, 0, 1);
        check.due("none", 0, begin(x, 0, 1, 2, 3, 100));
        for (int wave = 0; wave < 3; wave++) {
            check.dueRuns("WAVE " + wave, x, wave, 0, 0, RUNS);
            check.due("none", 0, x.tick(0));
        }
        check.due("one", 1, x.tick(100));
        FleetSlots y = fleet(1, 0, 0);
        check.due("no DEVICES at all", 0, begin(y, 0, 100));
        check.due("none", 0, y.tick(0));
        check.dueRuns("over", y, 0, 0, 0, OVER, 0, 0);
    }

    @Says("else the next WAVE is on, behind the last the CAMPAIGN is over.")
    static void terms3_behindTheLastWaveItIsOver() {
        FleetSlots x = fleet(1, 0, 2);
        begin(x, 0, 4, 100);
        x.tick(ALL);
        x.tick(ALL);
        check.dueRuns("the next WAVE", x, 1, 0, 0, RUNS, 100, 1);
        x.tick(ALL);
        check.dueRuns("not over yet", x, 1, 1, 0, RUNS, 200, 2);
        x.tick(ALL);
        check.dueRuns("over", x, 1, 1, 0, OVER, 200, 2);
    }

    @Says("the CAMPAIGN is HALTED")
    static void terms3_theLastWaveIsHaltedToo() {
        FleetSlots x = fleet(1, 1, 1);
        begin(x, 9, 100);
        x.tick(ALL);
        x.tick(ALL);
        check.dueRuns("1 of 1", x, 0, 1, 1, HALTED);
    }

    // ---- Terms: CHANCE

    @Says("CHANCE of a gate: if each of m DEVICES (1 to 12) fails t of 10 times: of 10 to the power m like cases, in how"
        + " many it is not HALTED.")
    static void terms3_chancesAreCountedCaseByCase() {
        FleetSlots x = new FleetSlots();
        int cases = 10;
        for (int m = 1; m <= 3; m++, cases *= 10) {
            for (int t = 0; t <= 10; t++) {
                for (int gate = 0; gate <= 10; gate++) {
                    check.due("chance(" + m + ", " + t + ", " + gate + ")", counted(cases, m, t, gate),
                        x.chance(m, t, gate));
                }
            }
        }
    }

    /** Each number below 10 to the power m is a case: its digits below t are the DEVICES that fail. */
    private static long counted(int cases, int m, int t, int gate) {
        long held = 0;
        for (int k = 0; k < cases; k++) {
            int fails = 0;
            for (int rest = k, d = 0; d < m; d++, rest /= 10) {
                fails += rest % 10 < t ? 1 : 0;
            }
            held += fails * 10 > gate * m ? 0 : 1;
        }
        return held;
    }

    // ---- Promise 16: seed

    @Says("SEED: 1.")
    static void promise16_answers1WhateverTheSeed() {
        FleetSlots x = new FleetSlots();
        for (int z : new int[] {0, 1, -1, 65536, MIN, MAX, NONE, BAD}) {
            check.due("seed(" + z + ")", 1, x.seed(z));
        }
    }

    @Says("SEED")
    static void promise16_drawsAreByTheSeedFromNowOn() {
        FleetSlots x = fleet(1, 0, 12);
        check.due("DRAW by SEED 0", 3, x.told(0, 7));
        x.seed(65536);
        check.due("DRAW by SEED 65536", 4, x.told(0, 7));
        check.due("none below 4 now", 0, begin(x, 0, 4));
        x.seed(MIN);
        check.due("DRAW by SEED MIN", DevicesTest.bigDraw(0, MIN), x.told(0, 7));
        x.seed(0);
        check.due("DRAW by SEED 0", 3, x.told(0, 7));
        check.due("one below 4", 1, begin(x, 0, 4));
    }

    @Says("SEED")
    static void promise16_betweenTicksToo() {
        FleetSlots x = fleet(1, 0, 1);
        check.due("DRAW 3", 1, begin(x, 0, 4, 100));
        x.seed(65536);
        check.due("DRAW 4 now", 0, x.tick(ALL));
        check.due("the next WAVE", 1, x.runs(0));
    }

    // ---- Promise 17: campaign

    @Says("A CAMPAIGN begins")
    static void promise17_oneThatBeginsRunsInWave0() {
        FleetSlots x = fleet(1, 0, 12);
        begin(x, 0, 50, 100);
        check.dueRuns("at first", x, 0, 0, 0, RUNS, 0, 0);
    }

    @Says("(in place of the one before):")
    static void promise17_itTakesThePlaceOfTheOneBefore() {
        FleetSlots x = fleet(3, 4, 12);
        check.due("the one before", 4, begin(x, 10, 20, 100));
        x.tick(ALL);
        x.tick(ALL);
        x.tick(ALL);
        check.dueRuns("in WAVE 1", x, 1, 8, 2, RUNS, 3600, 10);
        check.due("the new one", 12, x.campaign(1, 0, 1, 1, 10));
        check.dueRuns("the new one", x, 0, 0, 0, RUNS, 0, 10);
        check.due("those that failed are asked anew", 2, x.tick(ALL));
        check.dueRuns("asked anew", x, 0, 2, 2, RUNS, 600, 10);
        x.tick(ALL);
        check.due("over", OVER, x.runs(3));
        check.due("to another VERSION", 12, x.campaign(0, 0, 1, 1, 10));
        check.dueRuns("it runs", x, 0, 0, 0, RUNS, 0, 12);
    }

    @Says("(in place of the one before):")
    static void promise17_itTakesThePlaceOfOneThatIsHalted() {
        FleetSlots x = fleet(1, 1, 1);
        begin(x, 0, 100);
        x.tick(ALL);
        x.tick(ALL);
        check.due("HALTED", HALTED, x.runs(3));
        begin(x, 10, 100);
        check.dueRuns("the new one", x, 0, 0, 0, RUNS, 0, 0);
        check.due("tick", 1, x.tick(ALL));
    }

    @Says("(in place of the one before):")
    static void promise17_oneThatIsRefusedLeavesTheOneBefore() {
        FleetSlots x = fleet(1, 0, 12);
        begin(x, 3, 20, 100);
        x.tick(ALL);
        x.campaign(0, 0, 0, 2, 11);
        x.campaign(0, 1, 0, 2, 0);
        x.campaign(0, 0, 1, 2, 0);
        Fleet.items(x, 1, 0, 5, 5);
        x.campaign(0, 1, 0, 2, 0);
        check.dueRuns("as ahead", x, 0, 4, 0, RUNS, 400, 4);
        x.tick(ALL);
        check.due("the share of 100", 8, x.tick(ALL));
    }

    @Says("n WAVES, shares being ITEMS of a SHEET from i on:")
    static void promise17_theSharesAreNItemsFromIOn() {
        FleetSlots x = fleet(1, 0, 12);
        Fleet.shares(x, 100, 10, 20, 100, 5);
        check.due("10, 20, 100", 2, x.campaign(1, 0, 1, 3, 0));
        check.due("DRAWS 3, 9", 2, x.tick(ALL));
        x.tick(ALL);
        check.due("DRAWS 12, 18", 2, x.tick(ALL));
        x.tick(ALL);
        check.due("the others", 8, x.tick(ALL));
        x.tick(ALL);
        check.dueRuns("over", x, 2, 8, 0, OVER, 1200, 12);
        check.due("the last ITEM", 1, x.campaign(1, 0, 4, 1, 0));
    }

    @Says("shares being ITEMS of a SHEET from i on")
    static void promise17_ofEachLane() {
        for (int lane = 0; lane <= 2; lane++) {
            FleetSlots x = fleet(1, 0, 12);
            Fleet.items(x, 7, lane, 50, 100);
            check.due("LANE " + lane, 6, x.campaign(1, 7, 0, 2, 0));
        }
    }

    @Says("how many DEVICES the first has.")
    static void promise17_answersHowManyDevicesTheFirstWaveHas() {
        FleetSlots x = Fleet.of30();
        for (int share = 1; share <= 100; share++) {
            Fleet.shares(x, share);
            check.due("share " + share, Fleet.below(share), x.campaign(0, 0, 0, 1, 0));
        }
        check.due("all, though they are at the VERSION", 30, Fleet.below(100));
    }

    @Says("BAD: VERSION")
    static void promise17_aVersionThatIsNotThereIsBad() {
        FleetSlots x = fleet(1, 0, 12);
        Fleet.shares(x, 100);
        for (int v : new int[] {-1, 2, 10, NONE, MIN, MAX}) {
            check.due("VERSION " + v, BAD, x.campaign(v, 0, 0, 1, 0));
        }
        check.due("runs(0)", STATE, x.runs(0));
        check.due("VERSION 1", 12, x.campaign(1, 0, 0, 1, 0));
    }

    @Says("BAD: VERSION, SHEET")
    static void promise17_sheetMinus1And8AreBad() {
        FleetSlots x = fleet(1, 0, 12);
        Fleet.items(x, 7, 0, 100);
        for (int s : new int[] {-1, 8, MIN, MAX}) {
            check.due("SHEET " + s, BAD, x.campaign(1, s, 0, 1, 0));
        }
        check.due("SHEET 7", 12, x.campaign(1, 7, 0, 1, 0));
    }

    @Says("n (1 to 6)")
    static void promise17_0And7WavesAreBad() {
        FleetSlots x = fleet(1, 0, 12);
        Fleet.shares(x, 10, 20, 30, 40, 50, 60, 70);
        for (int n : new int[] {0, 7, -1, MIN, MAX}) {
            check.due(n + " WAVES", BAD, x.campaign(1, 0, 0, n, 0));
        }
        check.due("1 WAVE", 2, x.campaign(1, 0, 0, 1, 0));
        check.due("6 WAVES", 2, x.campaign(1, 0, 0, 6, 0));
    }

    @Says("gate (0 to 10)")
    static void promise17_aGateOfMinus1And11IsBad() {
        FleetSlots x = fleet(1, 0, 12);
        Fleet.shares(x, 100);
        for (int gate : new int[] {-1, 11, MIN, MAX}) {
            check.due("gate " + gate, BAD, x.campaign(1, 0, 0, 1, gate));
        }
        check.due("gate 0", 12, x.campaign(1, 0, 0, 1, 0));
        check.due("gate 10", 12, x.campaign(1, 0, 0, 1, 10));
    }

    @Says("NULL")
    static void promise17_aSheetThatIsMissingIsNull() {
        FleetSlots x = fleet(1, 0, 12);
        check.due("missing", NULL, x.campaign(1, 0, 0, 1, 0));
        check.due("status()", 1, x.status());
        check.due("BAD is ahead of NULL", BAD, x.campaign(2, 0, 0, 1, 0));
        check.due("BAD is ahead of NULL", BAD, x.campaign(1, 0, 0, 7, 0));
        check.due("BAD is ahead of NULL", BAD, x.campaign(1, 0, 0, 1, 11));
        check.due("NULL is ahead of PLACE", NULL, x.campaign(1, 0, -1, 1, 0));
        Fleet.shares(x, 100);
        x.drop(0);
        check.due("dropped", NULL, x.campaign(1, 0, 0, 1, 0));
        check.due("runs(0)", STATE, x.runs(0));
    }

    @Says("PLACE")
    static void promise17_beyondAnEndIsPlace() {
        FleetSlots x = fleet(1, 0, 12);
        Fleet.shares(x, 20, 60, 100);
        int[][] places = {{-1, 1}, {-1, 4}, {3, 1}, {1, 3}, {0, 4}, {0, 6}, {MAX, 1}, {MAX, 6}, {MIN, 6}};
        for (int[] p : places) {
            x.set(0, 0, 20);
            check.due("from " + p[0] + ", " + p[1] + " WAVES", PLACE, x.campaign(1, 0, p[0], p[1], 0));
            check.due("status()", 2, x.status());
        }
        check.due("BAD is ahead of PLACE", BAD, x.campaign(1, 0, -1, 1, 11));
        check.due("runs(0)", STATE, x.runs(0));
        check.due("to the end", 7, x.campaign(1, 0, 1, 2, 0));
        check.due("all", 4, x.campaign(1, 0, 0, 3, 0));
        x.sheet(1, 0, 0);
        check.due("of a SHEET of none", PLACE, x.campaign(1, 1, 0, 1, 0));
    }

    @Says("then BAD: they do not rise")
    static void promise17_sharesThatDoNotRiseAreBad() {
        int[][] wrong = {{50, 50}, {50, 49}, {100, 1}, {1, 2, 3, 4, 5, 5}, {1, 2, 2, 4, 5, 6}, {20, 60, 30}};
        for (int[] w : wrong) {
            FleetSlots x = fleet(1, 0, 12);
            check.due("shares from " + w[0], BAD, begin(x, 0, w));
            check.due("runs(0)", STATE, x.runs(0));
        }
        check.due("by one each", 1, begin(fleet(1, 0, 12), 0, 4, 5, 6, 7, 8, 9));
        check.due("what is not of it may fall", 12, fallingBehind().campaign(1, 0, 1, 1, 0));
    }

    private static FleetSlots fallingBehind() {
        FleetSlots x = fleet(1, 0, 12);
        Fleet.shares(x, 101, 100, 50);
        return x;
    }

    @Says("or are not 1 to 100.")
    static void promise17_sharesThatAreNot1To100AreBad() {
        int[][] wrong = {{0}, {101}, {-1}, {0, 1}, {-1, 0, 1}, {20, 60, 101}, {127}, {-128}};
        for (int[] w : wrong) {
            FleetSlots x = fleet(1, 0, 12);
            check.due("shares from " + w[0], BAD, begin(x, 0, w));
            check.due("runs(0)", STATE, x.runs(0));
        }
        FleetSlots x = fleet(1, 0, 12);
        check.due("1 and 100", 0, begin(x, 0, 1, 100));
        Fleet.items(x, 1, 2, MAX);
        check.due("MAX", BAD, x.campaign(1, 1, 0, 1, 0));
        Fleet.items(x, 1, 2, MIN);
        check.due("MIN", BAD, x.campaign(1, 1, 0, 1, 0));
    }

    @Says("NULL; PLACE; then BAD: they do not rise, or are not 1 to 100.")
    static void promise17_placeIsAheadOfSharesThatAreNotSo() {
        FleetSlots x = fleet(1, 0, 12);
        Fleet.shares(x, 50, 50, 0);
        check.due("from 0, 4 WAVES", PLACE, x.campaign(1, 0, 0, 4, 0));
        check.due("from -1", PLACE, x.campaign(1, 0, -1, 2, 0));
        check.due("from 2, where a 0 is, 2 WAVES", PLACE, x.campaign(1, 0, 2, 2, 0));
        check.due("status()", 2, x.status());
        check.due("from 0, 3 WAVES", BAD, x.campaign(1, 0, 0, 3, 0));
        check.due("status() is not that of BAD", 2, x.status());
    }

    @Says("shares being ITEMS of a SHEET")
    static void promise17_theSharesAreThoseOfItsBegin() {
        FleetSlots x = fleet(1, 0, 12);
        begin(x, 0, 20, 60);
        x.set(0, 0, 100);
        x.set(0, 1, 100);
        check.due("the first WAVE", 4, x.tick(ALL));
        x.drop(0);
        check.due("its end", 0, x.tick(ALL));
        check.due("the next WAVE", 3, x.tick(ALL));
    }

    // ---- Promise 18: tick

    @Says("A TICK with a BUDGET (0 to 100000 bytes): how many DEVICES were asked.")
    static void promise18_answersHowManyWereAsked() {
        FleetSlots x = fleet(1, 0, 12);
        begin(x, 0, 100);
        check.due("0", 0, x.tick(0));
        check.due("99", 0, x.tick(99));
        check.due("100", 1, x.tick(100));
        check.due("399", 3, x.tick(399));
        check.due("100000", 8, x.tick(ALL));
        check.due("its end", 0, x.tick(ALL));
        FleetSlots y = fleet(8, 255, 30);
        begin(y, 10, 100);
        check.due("all 30, though they fail", 30, y.tick(24000));
    }

    @Says("BAD")
    static void promise18_aBudgetOfMinus1And100001IsBad() {
        FleetSlots x = fleet(1, 0, 1);
        begin(x, 0, 100);
        for (int budget : new int[] {-1, 100001, MIN, MAX}) {
            check.due("tick(" + budget + ")", BAD, x.tick(budget));
        }
        check.dueRuns("nothing changed", x, 0, 0, 0, RUNS, 0, 0);
        check.due("tick(0)", 0, x.tick(0));
        check.due("tick(100000)", 1, x.tick(100000));
    }

    @Says("STATE: there is no CAMPAIGN")
    static void promise18_withoutACampaignItIsState() {
        FleetSlots x = fleet(1, 0, 1);
        check.due("tick(0)", STATE, x.tick(0));
        check.due("tick(100000)", STATE, x.tick(100000));
        x.campaign(1, 0, 0, 1, 0);
        check.due("behind one that was refused", STATE, x.tick(0));
    }

    @Says("it is HALTED")
    static void promise18_oneThatIsHaltedIsState() {
        FleetSlots x = fleet(1, 1, 1);
        begin(x, 0, 4, 100);
        x.tick(ALL);
        x.tick(ALL);
        check.due("tick(100000)", STATE, x.tick(ALL));
        check.due("tick(0)", STATE, x.tick(0));
        check.dueRuns("HALTED", x, 0, 1, 1, HALTED, 100, 0);
    }

    @Says("or over.")
    static void promise18_oneThatIsOverIsState() {
        FleetSlots x = fleet(1, 0, 1);
        begin(x, 0, 4);
        x.tick(ALL);
        x.tick(ALL);
        check.due("tick(100000)", STATE, x.tick(ALL));
        check.due("tick(0)", STATE, x.tick(0));
        check.dueRuns("over", x, 0, 1, 0, OVER, 100, 1);
    }

    @Says("BAD; STATE: there is no CAMPAIGN, it is HALTED or over.")
    static void promise18_badIsAheadOfState() {
        FleetSlots x = fleet(1, 0, 1);
        check.due("no CAMPAIGN", BAD, x.tick(-1));
        check.due("no CAMPAIGN", BAD, x.tick(100001));
        begin(x, 0, 4);
        x.tick(ALL);
        x.tick(ALL);
        check.due("over", BAD, x.tick(-1));
        check.due("over", BAD, x.tick(100001));
    }

    // ---- Promise 19: runs

    @Says("Of the CAMPAIGN: 0 the WAVE that is on (0 on; the last one, when it is over)")
    static void promise19_what0IsTheWaveThatIsOnTheLastWhenOver() {
        FleetSlots x = fleet(1, 0, 0);
        begin(x, 0, 10, 20, 30);
        int[] waves = {0, 1, 2, 2};
        for (int wave : waves) {
            check.due("runs(0)", wave, x.runs(0));
            x.tick(0);
        }
        check.due("it was over", STATE, x.tick(0));
        check.due("runs(0)", 2, x.runs(0));
    }

    @Says("1 how many were asked in it, 2 how many of these failed")
    static void promise19_what1IsHowManyWereAskedInTheWave2HowManyFailed() {
        FleetSlots x = fleet(1, 1 + 8, 5);
        begin(x, 10, 42, 100);
        check.due("0", 0, x.runs(1));
        x.tick(100);
        check.dueRuns("0 failed", x, 0, 1, 1);
        x.tick(ALL);
        check.dueRuns("0 and 3 failed", x, 0, 3, 2);
        x.tick(ALL);
        check.dueRuns("the next WAVE", x, 1, 0, 0);
        x.tick(ALL);
        check.dueRuns("0 and 3 failed anew", x, 1, 4, 2);
        x.tick(ALL);
        check.dueRuns("over: those of the last", x, 1, 4, 2, OVER);
    }

    @Says("3 whether it runs (0), is HALTED (1), over (2)")
    static void promise19_what3Is0RunsOr1HaltedOr2Over() {
        FleetSlots x = fleet(1, 1, 1);
        begin(x, 0, 4, 100);
        check.due("at first", 0, x.runs(3));
        x.tick(ALL);
        check.due("asked", 0, x.runs(3));
        x.tick(ALL);
        check.due("HALTED", 1, x.runs(3));
        check.due("in the WAVE that failed", 0, x.runs(0));
        begin(x, 10, 4);
        x.tick(ALL);
        x.tick(ALL);
        check.due("over", 2, x.runs(3));
    }

    @Says("4 bytes sent in all")
    static void promise19_what4IsTheBytesOfAllWaves() {
        FleetSlots x = fleet(2, 1, 2);
        begin(x, 10, 4, 100);
        x.tick(ALL);
        check.due("WAVE 0", 200, x.runs(4));
        x.tick(ALL);
        check.due("WAVE 1 is on", 200, x.runs(4));
        x.tick(ALL);
        check.due("WAVE 1", 600, x.runs(4));
        x.update(0, 1);
        check.due("update() sends none", 600, x.runs(4));
    }

    @Says("5 DEVICES at its VERSION or above.")
    static void promise19_what5IsHowManyAreAtItsVersionOrAbove() {
        FleetSlots x = Fleet.ofVersions(3);
        Fleet.devices(x, 4);
        begin(x, 0, 4, 100);
        check.due("none", 0, x.runs(5));
        x.update(1, 1);
        check.due("one at it", 1, x.runs(5));
        x.update(2, 2);
        check.due("one above it", 2, x.runs(5));
        x.tick(ALL);
        check.due("one that was asked", 3, x.runs(5));
        x.device(0, 2, NONE);
        check.due("one that came", 4, x.runs(5));
    }

    @Says("5 DEVICES at its VERSION or above.")
    static void promise19_what5OfAFullFleet() {
        FleetSlots x = Fleet.of30();
        x.version(1, 0, 0);
        begin(x, 0, 100);
        check.due("none of 30", 0, x.runs(5));
        check.due("29 are asked", 29, x.tick(2999));
        check.due("29 of 30", 29, x.runs(5));
        check.due("the last is asked", 1, x.tick(100));
        check.due("30 of 30", 30, x.runs(5));
    }

    @Says("BAD")
    static void promise19_whatMinus1And6AreBad() {
        FleetSlots x = fleet(1, 0, 1);
        for (int what : new int[] {-1, 6, MIN, MAX}) {
            check.due("BAD is ahead of STATE", BAD, x.runs(what));
        }
        begin(x, 0, 100);
        for (int what : new int[] {-1, 6, MIN, MAX}) {
            check.due("runs(" + what + ")", BAD, x.runs(what));
        }
    }

    @Says("STATE: there is none.")
    static void promise19_withoutACampaignItIsState() {
        FleetSlots x = fleet(1, 0, 1);
        for (int what = 0; what <= 5; what++) {
            check.due("runs(" + what + ")", STATE, x.runs(what));
        }
        begin(x, 0, 4);
        x.tick(ALL);
        x.tick(ALL);
        check.dueRuns("one that is over is one", x, 0, 1, 0, OVER, 100, 1);
    }

    // ---- Promise 20: chance

    @Says("CHANCE of a gate.")
    static void promise20_chancesOf1And12Devices() {
        FleetSlots x = new FleetSlots();
        check.due("chance(1, 0, 0)", 10, x.chance(1, 0, 0));
        check.due("chance(1, 10, 0)", 0, x.chance(1, 10, 0));
        check.due("chance(1, 10, 9)", 0, x.chance(1, 10, 9));
        check.due("chance(1, 10, 10)", 10, x.chance(1, 10, 10));
        check.due("chance(1, 3, 5)", 7, x.chance(1, 3, 5));
        check.due("chance(2, 5, 5), just at the gate", 75, x.chance(2, 5, 5));
        check.due("chance(2, 5, 4)", 25, x.chance(2, 5, 4));
        check.due("chance(10, 3, 3)", 6496107184L, x.chance(10, 3, 3));
        check.due("chance(12, 5, 0)", 244140625L, x.chance(12, 5, 0));
    }

    @Says("CHANCE of a gate.")
    static void promise20_aLongHolds10ToThePower12() {
        FleetSlots x = new FleetSlots();
        check.due("chance(12, 0, 0)", 1000000000000L, x.chance(12, 0, 0));
        check.due("chance(12, 10, 10)", 1000000000000L, x.chance(12, 10, 10));
        check.due("chance(12, 9, 10)", 1000000000000L, x.chance(12, 9, 10));
        check.due("chance(12, 10, 9)", 0, x.chance(12, 10, 9));
        check.due("chance(12, 1, 0)", 282429536481L, x.chance(12, 1, 0));
    }

    @Says("BAD as a long: m")
    static void promise20_0And13DevicesAreBad() {
        FleetSlots x = new FleetSlots();
        for (int m : new int[] {0, 13, -1, MIN, MAX}) {
            check.due("chance(" + m + ", 0, 0)", -1000001L, x.chance(m, 0, 0));
        }
    }

    @Says("t (0 to 10)")
    static void promise20_minus1And11Of10TimesAreBad() {
        FleetSlots x = new FleetSlots();
        for (int t : new int[] {-1, 11, MIN, MAX}) {
            check.due("chance(1, " + t + ", 0)", -1000001L, x.chance(1, t, 0));
        }
    }

    @Says("gate (0 to 10).")
    static void promise20_aGateOfMinus1And11IsBad() {
        FleetSlots x = new FleetSlots();
        for (int gate : new int[] {-1, 11, MIN, MAX}) {
            check.due("chance(1, 0, " + gate + ")", -1000001L, x.chance(1, 0, gate));
        }
    }
}
