import java.math.BigInteger;
import java.util.Random;

/** Promises 10 to 15, and of the Terms what they say of DEVICES, UPDATES, STARTS and CUTS. */
public final class DevicesTest {
    private static final Check check = new Check(DevicesTest.class);
    private static final int BAD = Check.BAD, STATE = Check.STATE, FULL = Check.FULL, NONE = Check.NONE;
    private static final int MAX = Check.MAX, MIN = Check.MIN;

    public static void main(String[] args) throws IllegalAccessException {
        check.runAll();
    }

    /** BLOCKS 3, 2, 8, 1; FLOORS 0, 0, 2, 2; VERSION 1 AILS on SORT 1, VERSION 2 on SORT 7. */
    private static FleetSlots ofFour() {
        FleetSlots x = new FleetSlots();
        x.version(3, 0, 0);
        x.version(2, 0, 2);
        x.version(8, 2, 128);
        x.version(1, 2, 0);
        return x;
    }

    private static FleetSlots ofFourWith(int sort, int version) {
        FleetSlots x = ofFour();
        x.device(sort, version, NONE);
        return x;
    }

    /** So many BLOCKS for VERSION 1, which AILS on SORT 1; DEVICE 0 of SORT 0, DEVICE 1 of SORT 1. */
    private static FleetSlots ofBlocks(int blocks) {
        FleetSlots x = new FleetSlots();
        x.version(5, 0, 0);
        x.version(blocks, 1, 2);
        x.device(0, 0, NONE);
        x.device(1, 0, NONE);
        return x;
    }

    // ---- Terms: DEVICES

    @Says("DEVICES 0 .. 29 (30 at most)")
    static void terms2_devicesAre0To29() {
        FleetSlots x = Fleet.ofVersions(1);
        for (int d = 0; d < 30; d++) {
            check.due("DEVICE " + d, d, x.device(0, 0, NONE));
        }
        check.due("one more", FULL, x.device(0, 0, NONE));
        check.due("told(29, 0)", 0, x.told(29, 0));
        check.due("told(30, 0)", BAD, x.told(30, 0));
    }

    @Says("each of a SORT 0 to 7")
    static void terms2_aSortIs0To7() {
        FleetSlots x = Fleet.ofVersions(1);
        check.due("SORT -1", BAD, x.device(-1, 0, NONE));
        check.due("SORT 8", BAD, x.device(8, 0, NONE));
        check.due("SORT 0", 0, x.device(0, 0, NONE));
        check.due("SORT 7", 1, x.device(7, 0, NONE));
        check.due("as(0, 0)", 0, x.as(0, 0));
        check.due("as(1, 0)", 7, x.as(1, 0));
    }

    @Says("perhaps behind a HUB (an earlier DEVICE).")
    static void terms2_aHubIsAnEarlierDevice() {
        FleetSlots x = Fleet.ofVersions(1);
        check.due("itself as the first one's HUB", BAD, x.device(0, 0, 0));
        check.due("behind none", 0, x.device(0, 0, NONE));
        check.due("behind the first", 1, x.device(0, 0, 0));
        check.due("behind itself", BAD, x.device(0, 0, 2));
        check.due("behind a later one", BAD, x.device(0, 0, 3));
        check.due("behind the latest", 2, x.device(0, 0, 1));
        check.due("two behind one", 3, x.device(0, 0, 1));
    }

    @Says("It has SLOTS 0, 1: in each a VERSION and how many of its BLOCKS are there (WHOLE: all), or nothing;")
    static void terms2_theOtherSlotHasNothingOrAVersionInPartOrWhole() {
        FleetSlots x = ofFourWith(0, 0);
        check.dueTold("nothing", x, 0, 0, 0, NONE, 0);
        x.power(0, 1, 2);
        check.dueTold("1 BLOCK of 2", x, 0, 0, 0, 1, 1);
        x.power(0, 1, 3);
        check.dueTold("WHOLE", x, 0, 0, 0, 1, 2);
        x.power(0, 1, 1);
        check.dueTold("nothing", x, 0, 0, 0, NONE, 0);
    }

    @Says("the SLOT that is ON; whether the other one is to be TRIED, and how many tries are left;")
    static void terms2_slots0And1AreOnByTurns() {
        FleetSlots x = Fleet.ofVersions(5);
        x.device(0, 0, NONE);
        for (int v = 1; v < 5; v++) {
            x.update(0, v);
            check.dueTold("VERSION " + v, x, 0, v, v % 2, v - 1, 1, 0);
        }
    }

    @Says("its FUSE (0 at first)")
    static void terms2_fuseIs0AtFirstWhereTheFloorIs0() {
        FleetSlots x = Fleet.ofVersions(10);
        x.device(0, 9, NONE);
        check.due("FUSE", 0, x.told(0, 5));
    }

    @Says("no VERSION with a number below FUSE is ever started.")
    static void terms2_whatIsOnIsNeverBelowFuseAndFuseNeverFalls() {
        Random random = new Random(5);
        for (int run = 0; run < 60; run++) {
            FleetSlots x = randomVersions(random);
            x.device(random.nextInt(8), 0, NONE);
            int fuse = 0;
            for (int k = 0; k < 60; k++) {
                x.power(0, random.nextInt(10), random.nextInt(15));
                check.dueTrue("FUSE does not fall", x.told(0, 5) >= fuse);
                fuse = x.told(0, 5);
                check.dueTrue("what is ON is not below FUSE", x.told(0, 0) >= fuse);
            }
        }
    }

    private static FleetSlots randomVersions(Random random) {
        FleetSlots x = new FleetSlots();
        int floor = 0;
        for (int v = 0; v < 10; v++) {
            floor = Math.max(floor, random.nextInt(v + 1));
            x.version(1 + random.nextInt(8), floor, v == 0 ? 0 : random.nextInt(256));
        }
        return x;
    }

    @Says("A DEVICE comes with a VERSION, WHOLE, in SLOT 0, which is ON; FUSE is that VERSION's FLOOR.")
    static void terms2_aDeviceComesWithAWholeVersionInSlot0() {
        FleetSlots x = ofFour();
        x.device(0, 0, NONE);
        x.device(0, 2, NONE);
        x.device(0, 3, NONE);
        check.dueTold("with VERSION 0", x, 0, 0, 0, NONE, 0, 0, 0, 0, 3, 1);
        check.dueTold("with VERSION 2", x, 1, 2, 0, NONE, 0, 0, 2, 0, 70, 1);
        check.dueTold("with VERSION 3", x, 2, 3, 0, NONE, 0, 0, 2, 0, 74, 1);
        x.update(0, 1);
        check.dueTold("it was WHOLE: 3 BLOCKS", x, 0, 1, 1, 0, 3);
    }

    // ---- Terms: UPDATES, ACT by ACT

    @Says("An UPDATE to a VERSION above the one that is ON, ACT by ACT: ERASE: the other SLOT has nothing;")
    static void terms2_act1IsEraseTheOtherSlotHasNothing() {
        FleetSlots x = ofFourWith(0, 0);
        x.update(0, 1);
        check.dueTold("VERSION 0 is there", x, 0, 1, 1, 0, 3);
        check.due("0 ACTS", 0, x.power(0, 2, 0));
        check.dueTold("it stays", x, 0, 1, 1, 0, 3);
        check.due("1 ACT", 0, x.power(0, 2, 1));
        check.dueTold("nothing is there", x, 0, 1, 1, NONE, 0);
    }

    @Says("a BLOCK of it comes there, so many ACTS;")
    static void terms2_thenABlockComesWithEachAct() {
        for (int blocks = 1; blocks <= 8; blocks++) {
            for (int k = 1; k <= blocks; k++) {
                FleetSlots x = ofBlocks(blocks);
                check.due("ERASE and " + k + " BLOCKS", 0, x.power(0, 1, 1 + k));
                check.dueTold(k + " of " + blocks, x, 0, 0, 0, 1, k, 0, 0, 1);
            }
        }
    }

    @Says("MARK: the other SLOT is to be TRIED, 3 tries are left; START: see there;")
    static void terms2_behindMarkItIsTriedAndTaken() {
        for (int blocks = 1; blocks <= 8; blocks++) {
            FleetSlots x = ofBlocks(blocks);
            check.due("all BLOCKS, no MARK", 0, x.power(0, 1, 1 + blocks));
            check.dueTold("not TRIED", x, 0, 0, 0, 1, blocks, 0, 0, 1);
            check.due("MARK", 1, x.power(0, 1, 2 + blocks));
            check.dueTold("TAKEN", x, 0, 1, 1, 0, 5, 0, 1, 1);
        }
    }

    @Says("3 tries are left; START: see there; then, as long as it is to be TRIED (with 0 tries left, too: one more"
        + " START ends that), START again;")
    static void terms2_anAilingOneHas3TriesAndOneMoreStart() {
        for (int blocks = 1; blocks <= 8; blocks++) {
            FleetSlots x = ofBlocks(blocks);
            check.due("ERASE, BLOCKS, MARK, 4 STARTS", 1 + blocks + 1 + 4, x.acts(1, 1));
            check.due("more than these", BAD, x.power(1, 1, blocks + 7));
            check.due("all of these", 0, x.power(1, 1, blocks + 6));
        }
    }

    @Says("it is over, when it is not (any more).")
    static void terms2_aGoodOneIsOverBehindOneStart() {
        for (int blocks = 1; blocks <= 8; blocks++) {
            FleetSlots x = ofBlocks(blocks);
            check.due("ERASE, BLOCKS, MARK, START", 1 + blocks + 1 + 1, x.acts(0, 1));
            check.due("more than these", BAD, x.power(0, 1, blocks + 4));
            check.due("all of these", 1, x.power(0, 1, blocks + 3));
        }
    }

    // ---- Terms: START

    @Says("START: if the other SLOT is to be TRIED, WHOLE, not below FUSE, and tries are left: these are one less;")
    static void terms2_aSlotThatIsNotToBeTriedIsNotStarted() {
        FleetSlots x = ofFourWith(0, 0);
        check.due("WHOLE, but no MARK", 0, x.power(0, 3, 2));
        check.dueTold("it is there", x, 0, 0, 0, 3, 1, 0, 0, 1);
        check.due("4 STARTS more", 0, x.power(0, 3, 0));
        check.dueTold("it is there still", x, 0, 0, 0, 3, 1, 0, 0, 2);
    }

    @Says("if its VERSION AILS on the SORT, nothing more;")
    static void terms2_whereItAilsNothingButTheTriesChanges() {
        FleetSlots x = ofFourWith(7, 1);
        check.due("it AILS", 0, x.update(0, 2));
        check.dueTold("ON and FUSE stay", x, 0, 1, 0, 2, 8, 0, 0, 1, 3, 1);
    }

    @Says("else it is TAKEN: it is the SLOT that is ON, nothing is to be TRIED, FUSE becomes the greater of FUSE and its"
        + " FLOOR.")
    static void terms2_takenItIsOnAndFuseIsTheGreaterOne() {
        FleetSlots x = new FleetSlots();
        int[] floors = {0, 1, 1, 1, 4};
        for (int floor : floors) {
            x.version(1, floor, 0);
        }
        x.device(0, 0, NONE);
        for (int v = 1; v < floors.length; v++) {
            check.due("update(0, " + v + ")", 1, x.update(0, v));
            check.dueTold("TAKEN", x, 0, v, v % 2, v - 1, 1, 0, floors[v], 0);
        }
    }

    @Says("If it is to be TRIED, but not so: nothing is to be TRIED.")
    static void terms2_withNoTriesLeftNothingIsToBeTried() {
        FleetSlots x = ofFourWith(1, 0);
        x.update(0, 1);
        check.dueTold("no tries left, not to be TRIED", x, 0, 0, 0, 1, 2, 0);
        check.due("acts() of another", 4, x.acts(0, 3));
        check.due("WHOLE, but not to be TRIED", 0, x.power(0, 3, 2));
        check.dueTold("not started", x, 0, 0, 0, 3, 1, 0);
    }

    // ---- Terms: CUTS

    @Says("A CUT behind so many ACTS (0 on) of an UPDATE: what was done stands;")
    static void terms2_behindACutWhatWasDoneStands() {
        int[] others = {0, NONE, 2, 2, 2};
        int[] blocks = {3, 0, 1, 2, 3};
        for (int acts = 0; acts <= 4; acts++) {
            FleetSlots x = ofFourWith(0, 0);
            x.update(0, 1);
            check.due("CUT behind " + acts, 0, x.power(0, 2, acts));
            check.dueTold("behind " + acts, x, 0, 1, 1, others[acts], blocks[acts], 0, 0, 1);
        }
    }

    @Says("then the DEVICE STARTS 4 times.")
    static void terms2_behindACutItStarts4Times() {
        FleetSlots good = ofFourWith(0, 0);
        check.due("CUT behind MARK", 1, good.power(0, 1, 4));
        check.dueTold("started", good, 0, 1, 1, 0, 3, 0);
        for (int acts = 4; acts <= 8; acts++) {
            FleetSlots ailing = ofFourWith(1, 0);
            check.due("CUT behind " + acts, 0, ailing.power(0, 1, acts));
            check.dueTold("no tries are left", ailing, 0, 0, 0, 1, 2, 0);
            check.due("not to be TRIED", 1, ailing.power(0, 3, 4));
        }
    }

    @Says("ALIVE: the SLOT that is ON is WHOLE and not below FUSE.")
    static void terms2_cutOffAtAnyStepItIsAlive() {
        for (int sort = 0; sort <= 1; sort++) {
            for (int blocks = 1; blocks <= 8; blocks++) {
                int all = blocks + (sort == 0 ? 3 : 6);
                for (int acts = 0; acts <= all; acts++) {
                    FleetSlots x = ofBlocks(blocks);
                    check.due("ALIVE behind " + acts + ", foretold", 1, x.cut(sort, 1, acts, 0));
                    x.power(sort, 1, acts);
                    check.due("ALIVE behind " + acts, 1, x.told(sort, 8));
                    check.due("all are ALIVE", 2, x.count(3));
                }
            }
        }
    }

    // ---- Promise 10: device

    @Says("A DEVICE: its number.")
    static void promise10_answersItsNumber() {
        FleetSlots x = ofFour();
        check.due("the first", 0, x.device(7, 1, NONE));
        check.due("a refused one takes no number", BAD, x.device(8, 0, NONE));
        check.due("a refused one takes no number", STATE, x.device(1, 1, NONE));
        check.due("the second", 1, x.device(0, 0, 0));
        check.due("count(2)", 2, x.count(2));
    }

    @Says("BAD: SORT")
    static void promise10_sortMinus1And8AreBad() {
        FleetSlots x = ofFour();
        for (int sort : new int[] {-1, 8, 32, MIN, MAX}) {
            check.due("SORT " + sort, BAD, x.device(sort, 0, NONE));
        }
        check.due("count(2)", 0, x.count(2));
    }

    @Says("BAD: SORT, VERSION")
    static void promise10_aVersionThatIsNotThereIsBad() {
        FleetSlots x = ofFour();
        for (int version : new int[] {-1, 4, 10, NONE, MIN, MAX}) {
            check.due("VERSION " + version, BAD, x.device(0, version, NONE));
        }
        check.due("VERSION 3", 0, x.device(0, 3, NONE));
        check.due("none at all", BAD, new FleetSlots().device(0, 0, NONE));
    }

    @Says("HUB (NONE, or there);")
    static void promise10_aHubIsNoneOrThere() {
        FleetSlots x = ofFour();
        for (int hub : new int[] {0, -1, 30, NONE - 1, NONE + 1, BAD, MIN, MAX}) {
            check.due("HUB " + hub, BAD, x.device(0, 0, hub));
        }
        check.due("HUB NONE", 0, x.device(0, 0, NONE));
        check.due("HUB 1, itself", BAD, x.device(0, 0, 1));
        check.due("HUB 0", 1, x.device(0, 0, 0));
    }

    @Says("STATE: the VERSION AILS on the SORT;")
    static void promise10_aVersionThatAilsOnTheSortIsState() {
        FleetSlots x = ofFour();
        check.due("SORT 1, VERSION 1", STATE, x.device(1, 1, NONE));
        check.due("SORT 7, VERSION 2", STATE, x.device(7, 2, NONE));
        check.due("count(2)", 0, x.count(2));
        check.due("SORT 7, VERSION 1", 0, x.device(7, 1, NONE));
        check.due("SORT 1, VERSION 2", 1, x.device(1, 2, NONE));
        check.due("SORT 0, VERSION 1", 2, x.device(0, 1, NONE));
        check.due("SORT 2, VERSION 1", 3, x.device(2, 1, NONE));
    }

    @Says("FULL: 30.")
    static void promise10_a31stIsFull() {
        FleetSlots x = ofFour();
        Fleet.devices(x, 29);
        check.due("the 30th", 29, x.device(5, 0, 28));
        check.due("a 31st", FULL, x.device(0, 0, NONE));
        check.due("a 31st behind the 30th", FULL, x.device(0, 0, 29));
        check.due("count(2)", 30, x.count(2));
        check.due("as(29, 0)", 5, x.as(29, 0));
    }

    @Says("BAD: SORT, VERSION, HUB (NONE, or there); STATE: the VERSION AILS on the SORT; FULL: 30.")
    static void promise10_badIsAheadOfStateAndStateAheadOfFull() {
        FleetSlots x = ofFour();
        check.due("HUB, and it AILS", BAD, x.device(1, 1, 0));
        Fleet.devices(x, 30);
        check.due("it AILS, and FULL", STATE, x.device(1, 1, NONE));
        check.due("HUB, and FULL", BAD, x.device(0, 0, 30));
        check.due("SORT, and FULL", BAD, x.device(8, 0, NONE));
        check.due("VERSION, and FULL", BAD, x.device(0, 4, NONE));
        check.due("FULL", FULL, x.device(0, 0, NONE));
        check.due("status()", 0, x.status());
    }

    // ---- Promise 11: told

    @Says("Of a DEVICE: 0 the VERSION that is ON, 1 the SLOT that is ON")
    static void promise11_what0IsTheVersionThatIsOn1ItsSlot() {
        FleetSlots x = ofFourWith(1, 0);
        check.dueTold("as it came", x, 0, 0, 0);
        x.update(0, 1);
        check.dueTold("one that failed", x, 0, 0, 0);
        x.update(0, 2);
        check.dueTold("one that is TAKEN", x, 0, 2, 1);
        x.update(0, 3);
        check.dueTold("another", x, 0, 3, 0);
    }

    @Says("2 the VERSION in the other one (NONE), 3 how many BLOCKS of it are there")
    static void promise11_what2IsTheVersionInTheOtherSlot3ItsBlocks() {
        FleetSlots x = ofFourWith(0, 0);
        check.dueTold("nothing", x, 0, 0, 0, NONE, 0);
        x.power(0, 2, 8);
        check.dueTold("7 BLOCKS", x, 0, 0, 0, 2, 7);
        x.power(0, 2, 9);
        check.dueTold("8 BLOCKS", x, 0, 0, 0, 2, 8);
        x.power(0, 1, 1);
        check.dueTold("nothing", x, 0, 0, 0, NONE, 0);
        x.update(0, 2);
        check.dueTold("the one that was ON", x, 0, 2, 1, 0, 3);
    }

    @Says("4 tries left (0: it is not to be TRIED)")
    static void promise11_what4Is0BehindEveryCall() {
        for (int acts = 0; acts <= 8; acts++) {
            FleetSlots x = ofFourWith(1, 0);
            x.cut(0, 1, acts, 0);
            check.due("tries behind cut() of " + acts, 0, x.told(0, 4));
            x.power(0, 1, acts);
            check.due("tries behind power() of " + acts, 0, x.told(0, 4));
        }
        FleetSlots x = ofFourWith(1, 0);
        x.acts(0, 1);
        check.due("tries behind acts()", 0, x.told(0, 4));
        x.update(0, 1);
        check.due("tries behind update() that failed", 0, x.told(0, 4));
        x.update(0, 3);
        check.due("tries behind update() that is TAKEN", 0, x.told(0, 4));
    }

    @Says("5 FUSE")
    static void promise11_what5IsFuse() {
        FleetSlots x = ofFourWith(7, 0);
        x.device(0, 2, NONE);
        check.due("FLOOR 0", 0, x.told(0, 5));
        check.due("FLOOR 2", 2, x.told(1, 5));
        x.update(0, 2);
        check.due("failed: as ahead", 0, x.told(0, 5));
        x.update(0, 3);
        check.due("TAKEN: its FLOOR", 2, x.told(0, 5));
    }

    @Says("6 how often UPDATES failed, in all")
    static void promise11_what6IsHowOftenUpdatesFailedInAll() {
        FleetSlots x = ofFourWith(1, 0);
        x.device(0, 0, NONE);
        check.due("none", 0, x.told(0, 6));
        x.update(0, 1);
        x.power(0, 1, 0);
        x.power(0, 2, 4);
        check.due("three", 3, x.told(0, 6));
        x.update(0, 2);
        check.due("one that is TAKEN", 3, x.told(0, 6));
        x.power(0, 3, 1);
        check.due("four", 4, x.told(0, 6));
        x.update(0, 3);
        check.due("FRESH, but in all", 4, x.told(0, 6));
        x.update(0, 3);
        x.power(0, 3, 15);
        check.due("a refused one is none", 4, x.told(0, 6));
        check.due("of another DEVICE", 0, x.told(1, 6));
    }

    @Says("7 DRAW")
    static void promise11_what7IsDraw() {
        FleetSlots x = Fleet.of30();
        int[] first = {3, 70, 74, 41, 9, 12, 80, 83, 51, 18, 22, 89};
        for (int d = 0; d < first.length; d++) {
            check.due("DRAW of " + d, first[d], x.told(d, 7));
        }
        x.seed(-1);
        check.due("DRAW of 29 by SEED -1", bigDraw(29, -1), x.told(29, 7));
    }

    /** DRAW as the document tells it, without a type that could wrap around. */
    static int bigDraw(int device, int seed) {
        BigInteger sum = BigInteger.valueOf(2654435761L).multiply(BigInteger.valueOf(device + 1))
            .add(BigInteger.valueOf(seed));
        return sum.shiftRight(16).and(BigInteger.valueOf(65535)).intValue() % 100;
    }

    @Says("8 whether it is ALIVE.")
    static void promise11_what8Is1WhereItIsAlive() {
        FleetSlots x = ofFourWith(1, 0);
        check.due("as it came", 1, x.told(0, 8));
        x.update(0, 1);
        check.due("behind one that failed", 1, x.told(0, 8));
        x.update(0, 2);
        check.due("behind one that is TAKEN", 1, x.told(0, 8));
        x.power(0, 3, 1);
        check.due("behind a CUT", 1, x.told(0, 8));
    }

    @Says("BAD.")
    static void promise11_aDeviceThatIsNotThereIsBad() {
        FleetSlots x = ofFour();
        check.due("none at all", BAD, x.told(0, 0));
        x.device(0, 0, NONE);
        for (int d : new int[] {-1, 1, 30, NONE, MIN, MAX}) {
            for (int what = 0; what <= 8; what++) {
                check.due("told(" + d + ", " + what + ")", BAD, x.told(d, what));
            }
        }
    }

    @Says("BAD.")
    static void promise11_whatMinus1And9AreBad() {
        FleetSlots x = ofFourWith(0, 0);
        for (int what : new int[] {-1, 9, MIN, MAX}) {
            check.due("told(0, " + what + ")", BAD, x.told(0, what));
        }
    }

    // ---- Promise 12: update

    @Says("An UPDATE to the end: 1, it is TAKEN;")
    static void promise12_takenIs1() {
        FleetSlots x = ofFourWith(0, 0);
        check.due("update(0, 2)", 1, x.update(0, 2));
        check.dueTold("behind it", x, 0, 2, 1, 0, 3, 0, 2, 0, 3, 1);
        FleetSlots y = Fleet.ofVersions(10);
        y.device(0, 0, NONE);
        for (int v = 1; v < 10; v++) {
            check.due("update(0, " + v + ")", 1, y.update(0, v));
        }
    }

    @Says("0: it failed (it is not TAKEN).")
    static void promise12_failedIs0() {
        FleetSlots x = ofFourWith(1, 0);
        check.due("update(0, 1)", 0, x.update(0, 1));
        check.dueTold("once", x, 0, 0, 0, 1, 2, 0, 0, 1, 3, 1);
        check.due("update(0, 1)", 0, x.update(0, 1));
        check.dueTold("twice", x, 0, 0, 0, 1, 2, 0, 0, 2, 3, 1);
        check.due("update(0, 3)", 1, x.update(0, 3));
        check.dueTold("at last", x, 0, 3, 1, 0, 3, 0, 2, 2, 3, 1);
    }

    @Says("BAD: DEVICE")
    static void promise12_aDeviceThatIsNotThereIsBad() {
        FleetSlots x = ofFour();
        check.due("none at all", BAD, x.update(0, 1));
        x.device(0, 0, NONE);
        for (int d : new int[] {-1, 1, 30, MIN, MAX}) {
            check.due("update(" + d + ", 1)", BAD, x.update(d, 1));
        }
    }

    @Says("VERSION;")
    static void promise12_aVersionThatIsNotThereIsBad() {
        FleetSlots x = ofFourWith(0, 0);
        for (int v : new int[] {-1, 4, 10, NONE, MIN, MAX}) {
            check.due("update(0, " + v + ")", BAD, x.update(0, v));
        }
        check.due("update(0, 3)", 1, x.update(0, 3));
    }

    @Says("STATE: it is not above the one that is ON.")
    static void promise12_aVersionNotAboveTheOneThatIsOnIsState() {
        FleetSlots x = ofFourWith(0, 2);
        check.due("the one that is ON", STATE, x.update(0, 2));
        check.due("the one below", STATE, x.update(0, 1));
        check.due("VERSION 0", STATE, x.update(0, 0));
        check.dueTold("nothing changed", x, 0, 2, 0, NONE, 0, 0, 2, 0);
        check.due("the one above", 1, x.update(0, 3));
        check.due("now it is ON", STATE, x.update(0, 3));
        check.due("the one in the other SLOT", STATE, x.update(0, 2));
    }

    // ---- Promise 13: acts

    @Says("How many ACTS an UPDATE would take.")
    static void promise13_3MoreThanTheBlocksOr6WhereItAils() {
        for (int blocks = 1; blocks <= 8; blocks++) {
            FleetSlots x = ofBlocks(blocks);
            check.due(blocks + " BLOCKS", blocks + 3, x.acts(0, 1));
            check.due(blocks + " BLOCKS that AIL", blocks + 6, x.acts(1, 1));
        }
    }

    @Says("would take")
    static void promise13_nothingChanges() {
        FleetSlots x = ofFourWith(1, 0);
        x.power(0, 1, 2);
        check.due("acts(0, 1)", 8, x.acts(0, 1));
        check.due("acts(0, 3)", 4, x.acts(0, 3));
        check.dueTold("as ahead", x, 0, 0, 0, 1, 1, 0, 0, 1, 3, 1);
        check.due("acts(0, 1) again", 8, x.acts(0, 1));
    }

    @Says("BAD;")
    static void promise13_aDeviceOrVersionThatIsNotThereIsBad() {
        FleetSlots x = ofFourWith(0, 1);
        for (int d : new int[] {-1, 1, 30, MIN, MAX}) {
            check.due("acts(" + d + ", 2)", BAD, x.acts(d, 2));
            check.due("acts(" + d + ", 1)", BAD, x.acts(d, 1));
        }
        for (int v : new int[] {-1, 4, 10, MIN, MAX}) {
            check.due("acts(0, " + v + ")", BAD, x.acts(0, v));
        }
    }

    @Says("STATE likewise.")
    static void promise13_aVersionNotAboveTheOneThatIsOnIsState() {
        FleetSlots x = ofFourWith(0, 1);
        check.due("the one that is ON", STATE, x.acts(0, 1));
        check.due("the one below", STATE, x.acts(0, 0));
        check.due("the one above", 11, x.acts(0, 2));
    }

    // ---- Promise 14: power

    @Says("An UPDATE with a CUT behind so many ACTS (0 to all")
    static void promise14_each0ToAllOfAGoodOne() {
        int[] others = {NONE, NONE, 1, 1};
        int[] blocks = {0, 0, 1, 2};
        for (int acts = 0; acts <= 5; acts++) {
            FleetSlots x = ofFourWith(0, 0);
            check.due("power(0, 1, " + acts + ")", acts >= 4 ? 1 : 0, x.power(0, 1, acts));
            if (acts >= 4) {
                check.dueTold("behind " + acts, x, 0, 1, 1, 0, 3, 0, 0, 0, 3, 1);
            } else {
                check.dueTold("behind " + acts, x, 0, 0, 0, others[acts], blocks[acts], 0, 0, 1, 3, 1);
            }
        }
    }

    @Says("An UPDATE with a CUT behind so many ACTS (0 to all")
    static void promise14_each0ToAllOfAnAilingOne() {
        int[] others = {NONE, NONE, 1, 1, 1, 1, 1, 1, 1};
        int[] blocks = {0, 0, 1, 2, 2, 2, 2, 2, 2};
        for (int acts = 0; acts <= 8; acts++) {
            FleetSlots x = ofFourWith(1, 0);
            check.due("power(0, 1, " + acts + ")", 0, x.power(0, 1, acts));
            check.dueTold("behind " + acts, x, 0, 0, 0, others[acts], blocks[acts], 0, 0, 1, 3, 1);
        }
    }

    @Says("one of 0 ACTS counts as failed, too)")
    static void promise14_oneOf0ActsCountsAsFailed() {
        FleetSlots x = ofFourWith(0, 0);
        check.due("power(0, 1, 0)", 0, x.power(0, 1, 0));
        check.dueTold("nothing else", x, 0, 0, 0, NONE, 0, 0, 0, 1);
        check.due("kind(0)", 0, x.kind(0));
        check.due("power(0, 3, 0)", 0, x.power(0, 3, 0));
        check.due("failed", 2, x.told(0, 6));
        check.due("STUCK", 3, x.kind(0));
    }

    @Says("1: TAKEN; 0: it failed.")
    static void promise14_takenIs1FailedIs0() {
        for (int blocks = 1; blocks <= 8; blocks++) {
            FleetSlots x = ofBlocks(blocks);
            check.due("no MARK", 0, x.power(0, 1, blocks + 1));
            check.due("it failed", 1, x.told(0, 6));
            check.due("MARK", 1, x.power(0, 1, blocks + 2));
            check.due("it did not fail", 1, x.told(0, 6));
            check.due("MARK, but it AILS", 0, x.power(1, 1, blocks + 2));
            check.due("it failed", 1, x.told(1, 6));
        }
    }

    /** What an earlier UPDATE left in the other SLOT goes with ERASE, and is not TRIED without MARK. */
    @Says("An UPDATE with a CUT behind so many ACTS")
    static void promise14_oneBehindTheOther() {
        FleetSlots x = ofFourWith(1, 0);
        x.update(0, 1);
        check.due("0 ACTS", 0, x.power(0, 2, 0));
        check.dueTold("the other SLOT stays", x, 0, 0, 0, 1, 2, 0, 0, 2);
        check.due("1 ACT", 0, x.power(0, 2, 1));
        check.dueTold("the other SLOT is erased", x, 0, 0, 0, NONE, 0, 0, 0, 3);
        check.due("all BLOCKS, no MARK", 0, x.power(0, 2, 9));
        check.dueTold("WHOLE, but not TRIED", x, 0, 0, 0, 2, 8, 0, 0, 4);
        check.due("0 ACTS of the same", 0, x.power(0, 2, 0));
        check.dueTold("still not TRIED", x, 0, 0, 0, 2, 8, 0, 0, 5);
        check.due("MARK", 1, x.power(0, 2, 10));
        check.dueTold("TAKEN", x, 0, 2, 1, 0, 3, 0, 2, 5);
    }

    @Says("BAD: DEVICE, VERSION")
    static void promise14_aDeviceOrVersionThatIsNotThereIsBad() {
        FleetSlots x = ofFourWith(0, 1);
        for (int d : new int[] {-1, 1, 30, MIN, MAX}) {
            check.due("power(" + d + ", 2, 0)", BAD, x.power(d, 2, 0));
        }
        for (int v : new int[] {-1, 4, 10, MIN, MAX}) {
            check.due("power(0, " + v + ", 0)", BAD, x.power(0, v, 0));
        }
        check.due("failed", 0, x.told(0, 6));
    }

    @Says("ACTS not 0 to 14;")
    static void promise14_actsMinus1And15AreBad() {
        FleetSlots x = ofFourWith(7, 1);
        for (int acts : new int[] {-1, 15, MIN, MAX}) {
            check.due("power(0, 2, " + acts + ")", BAD, x.power(0, 2, acts));
        }
        check.dueTold("nothing changed", x, 0, 1, 0, NONE, 0, 0, 0, 0);
        check.due("power(0, 2, 14)", 0, x.power(0, 2, 14));
        check.due("power(0, 2, 0)", 0, x.power(0, 2, 0));
    }

    @Says("STATE likewise;")
    static void promise14_aVersionNotAboveTheOneThatIsOnIsState() {
        FleetSlots x = ofFourWith(0, 1);
        check.due("the one that is ON", STATE, x.power(0, 1, 0));
        check.due("the one below", STATE, x.power(0, 0, 4));
        check.dueTold("nothing changed", x, 0, 1, 0, NONE, 0, 0, 0, 0);
    }

    @Says("ACTS not 0 to 14; STATE likewise;")
    static void promise14_actsNot0To14AreAheadOfState() {
        FleetSlots x = ofFourWith(0, 1);
        check.due("power(0, 1, 15)", BAD, x.power(0, 1, 15));
        check.due("power(0, 1, -1)", BAD, x.power(0, 1, -1));
        check.due("power(0, 0, 15)", BAD, x.power(0, 0, 15));
    }

    @Says("then BAD: ACTS above all.")
    static void promise14_actsAboveAllAreBad() {
        FleetSlots x = ofFourWith(1, 0);
        x.device(0, 0, NONE);
        check.due("9 of 8", BAD, x.power(0, 1, 9));
        check.due("6 of 5", BAD, x.power(1, 1, 6));
        check.due("14 of 11", BAD, x.power(1, 2, 14));
        check.due("12 of 11", BAD, x.power(1, 2, 12));
        check.dueTold("nothing changed", x, 0, 0, 0, NONE, 0, 0, 0, 0);
        check.dueTold("nothing changed", x, 1, 0, 0, NONE, 0, 0, 0, 0);
        check.due("8 of 8", 0, x.power(0, 1, 8));
        check.due("11 of 11", 1, x.power(1, 2, 11));
    }

    @Says("STATE likewise; then BAD: ACTS above all.")
    static void promise14_stateIsAheadOfActsAboveAll() {
        FleetSlots x = ofFourWith(0, 1);
        check.due("power(0, 1, 14)", STATE, x.power(0, 1, 14));
        check.due("power(0, 0, 14)", STATE, x.power(0, 0, 14));
    }

    // ---- Promise 15: cut

    @Says("What would be by a CUT behind so many ACTS (0 to all), nothing changes:")
    static void promise15_nothingChanges() {
        FleetSlots x = ofFourWith(1, 0);
        x.power(0, 1, 2);
        for (int acts = 0; acts <= 4; acts++) {
            for (int what = 0; what <= 3; what++) {
                x.cut(0, 3, acts, what);
                check.dueTold("behind cut()", x, 0, 0, 0, 1, 1, 0, 0, 1, 3, 1);
            }
        }
    }

    @Says("0 whether the DEVICE is ALIVE then (1, 0), 1 the VERSION that is ON, 2 BLOCKS in the other SLOT, 3 FUSE.")
    static void promise15_eachWhatBehindEach0ToAll() {
        FleetSlots x = ofFourWith(0, 0);
        int[][] rows = {{1, 1, 1, 1, 1}, {0, 0, 0, 3, 3}, {0, 0, 1, 3, 3}, {0, 0, 0, 2, 2}};
        for (int what = 0; what <= 3; what++) {
            for (int acts = 0; acts <= 4; acts++) {
                check.due("cut(0, 3, " + acts + ", " + what + ")", rows[what][acts], x.cut(0, 3, acts, what));
            }
        }
        FleetSlots y = ofFourWith(7, 1);
        for (int acts = 0; acts <= 14; acts++) {
            check.due("ALIVE", 1, y.cut(0, 2, acts, 0));
            check.due("VERSION", 1, y.cut(0, 2, acts, 1));
            check.due("BLOCKS", acts == 0 ? 0 : Math.min(acts - 1, 8), y.cut(0, 2, acts, 2));
            check.due("FUSE", 0, y.cut(0, 2, acts, 3));
        }
    }

    @Says("2 BLOCKS in the other SLOT")
    static void promise15_behind0ActsTheOtherSlotIsAsItWas() {
        FleetSlots x = ofFourWith(0, 0);
        x.update(0, 1);
        check.due("0 ACTS", 3, x.cut(0, 2, 0, 2));
        check.due("1 ACT", 0, x.cut(0, 2, 1, 2));
        check.due("11 ACTS: what was ON", 2, x.cut(0, 2, 11, 2));
    }

    @Says("BAD: DEVICE, VERSION")
    static void promise15_aDeviceOrVersionThatIsNotThereIsBad() {
        FleetSlots x = ofFourWith(0, 1);
        for (int d : new int[] {-1, 1, 30, MIN, MAX}) {
            check.due("cut(" + d + ", 2, 0, 0)", BAD, x.cut(d, 2, 0, 0));
        }
        for (int v : new int[] {-1, 4, 10, MIN, MAX}) {
            check.due("cut(0, " + v + ", 0, 0)", BAD, x.cut(0, v, 0, 0));
        }
    }

    @Says("ACTS (as of power())")
    static void promise15_actsMinus1And15AreBadAheadOfState() {
        FleetSlots x = ofFourWith(7, 1);
        for (int acts : new int[] {-1, 15, MIN, MAX}) {
            check.due("cut(0, 2, " + acts + ", 0)", BAD, x.cut(0, 2, acts, 0));
            check.due("cut(0, 1, " + acts + ", 0)", BAD, x.cut(0, 1, acts, 0));
        }
        check.due("cut(0, 2, 14, 0)", 1, x.cut(0, 2, 14, 0));
    }

    @Says("what;")
    static void promise15_whatMinus1And4AreBadAheadOfState() {
        FleetSlots x = ofFourWith(0, 1);
        for (int what : new int[] {-1, 4, MIN, MAX}) {
            check.due("cut(0, 2, 0, " + what + ")", BAD, x.cut(0, 2, 0, what));
            check.due("cut(0, 1, 0, " + what + ")", BAD, x.cut(0, 1, 0, what));
        }
    }

    @Says("STATE, BAD likewise.")
    static void promise15_aVersionNotAboveIsStateAheadOfActsAboveAll() {
        FleetSlots x = ofFourWith(0, 1);
        for (int what = 0; what <= 3; what++) {
            check.due("the one that is ON", STATE, x.cut(0, 1, 0, what));
            check.due("the one below", STATE, x.cut(0, 0, 14, what));
        }
    }

    @Says("STATE, BAD likewise.")
    static void promise15_actsAboveAllAreBad() {
        FleetSlots x = ofFourWith(1, 0);
        x.device(0, 0, NONE);
        for (int what = 0; what <= 3; what++) {
            check.due("9 of 8", BAD, x.cut(0, 1, 9, what));
            check.due("6 of 5", BAD, x.cut(1, 1, 6, what));
        }
        check.due("8 of 8", 0, x.cut(0, 1, 8, 1));
        check.due("5 of 5", 1, x.cut(1, 1, 5, 1));
    }

    /** Whatever has been, there is a whole program to start: ALIVE stays 1. */
    @Says("What would be by a CUT behind so many ACTS")
    static void promise15_isWhatPowerThenDoes() {
        Random random = new Random(11);
        for (int run = 0; run < 60; run++) {
            FleetSlots x = randomVersions(random);
            x.device(random.nextInt(8), 0, NONE);
            for (int k = 0; k < 30; k++) {
                dueAsForetold(x, random.nextInt(10), random.nextInt(15));
            }
        }
    }

    private static void dueAsForetold(FleetSlots x, int version, int acts) {
        int all = x.acts(0, version);
        int[] wants = new int[4];
        for (int what = 0; what < 4; what++) {
            wants[what] = x.cut(0, version, acts, what);
        }
        int ahead = x.told(0, 0);
        int fails = x.told(0, 6);
        int taken = x.power(0, version, acts);
        if (all == STATE || acts > all) {
            int want = all == STATE ? STATE : BAD;
            check.due("power is refused", want, taken);
            check.due("cut is refused", want, wants[0]);
            return;
        }
        check.due("ALIVE as foretold", wants[0], x.told(0, 8));
        check.due("ALIVE", 1, x.told(0, 8));
        check.due("VERSION as foretold", wants[1], x.told(0, 0));
        check.due("BLOCKS as foretold", wants[2], x.told(0, 3));
        check.due("FUSE as foretold", wants[3], x.told(0, 5));
        check.due("TAKEN is ON", taken == 1 ? version : ahead, x.told(0, 0));
        check.due("fails", fails + 1 - taken, x.told(0, 6));
    }
}
