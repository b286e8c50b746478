import java.util.Random;

/** Promises 10 to 15: DEVICES, UPDATES, and CUTS. */
public final class DevicesTest {
    private static final int NONE = FleetSlots.NONE;
    private static final Check check = new Check("DevicesTest");

    public static void main(String[] args) {
        device();
        deviceFull();
        toldOfOneThatCame();
        toldRefused();
        drawOfSeeds();
        update();
        updateRefused();
        updateAfterUpdate();
        updateThatFails();
        acts();
        powerOfAGoodVersion();
        powerOfAnAilingVersion();
        powerRefused();
        powerOverWhatIsThere();
        cutOfAGoodVersion();
        cutRefused();
        cutIsWhatPowerDoes();
        check.end();
    }

    /** VERSION 1 AILS on SORT 1, VERSION 2 on SORT 7; FLOORS 0, 0, 2, 2. */
    private static FleetSlots withVersions() {
        FleetSlots x = new FleetSlots();
        x.version(3, 0, 0);
        x.version(2, 0, 2);
        x.version(8, 2, 128);
        x.version(1, 2, 0);
        return x;
    }

    private static void device() {
        FleetSlots x = withVersions();
        check.due("SORT -1", Check.BAD, x.device(-1, 0, NONE));
        check.due("SORT 8", Check.BAD, x.device(8, 0, NONE));
        check.due("VERSION -1", Check.BAD, x.device(0, -1, NONE));
        check.due("VERSION 4", Check.BAD, x.device(0, 4, NONE));
        check.due("no HUB yet", Check.BAD, x.device(0, 0, 0));
        check.due("HUB -1", Check.BAD, x.device(0, 0, -1));
        check.due("HUB below NONE", Check.BAD, x.device(0, 0, NONE - 1));
        check.due("it AILS on SORT 1", Check.STATE, x.device(1, 1, NONE));
        check.due("it AILS on SORT 7", Check.STATE, x.device(7, 2, NONE));
        check.due("BAD is ahead of STATE", Check.BAD, x.device(1, 1, 0));
        check.due("count(2)", 0, x.count(2));
        check.due("the first", 0, x.device(7, 1, NONE));
        check.due("behind the first", 1, x.device(0, 0, 0));
        check.due("itself as HUB", Check.BAD, x.device(0, 0, 2));
        check.due("behind the second", 2, x.device(1, 3, 1));
        check.due("count(2)", 3, x.count(2));
        check.due("status()", 0, x.status());
    }

    private static void deviceFull() {
        FleetSlots x = withVersions();
        for (int d = 0; d < 30; d++) {
            check.due("device " + d, d, x.device(d % 8, 0, d == 0 ? NONE : d - 1));
        }
        check.due("one more", Check.FULL, x.device(0, 0, 29));
        check.due("STATE is ahead of FULL", Check.STATE, x.device(1, 1, 29));
        check.due("BAD is ahead of FULL", Check.BAD, x.device(0, 0, 30));
        check.due("count(2)", 30, x.count(2));
        check.due("the last", 5, x.as(29, 0));
    }

    private static void toldOfOneThatCame() {
        FleetSlots x = withVersions();
        x.device(0, 0, NONE);
        x.device(0, 2, NONE);
        x.device(0, 3, NONE);
        check.dueTold("VERSION 0", x, 0, 0, 0, NONE, 0, 0, 0, 0, 3, 1);
        check.dueTold("VERSION 2", x, 1, 2, 0, NONE, 0, 0, 2, 0, 70, 1);
        check.dueTold("VERSION 3", x, 2, 3, 0, NONE, 0, 0, 2, 0, 74, 1);
    }

    private static void toldRefused() {
        FleetSlots x = withVersions();
        check.due("told(0, 0)", Check.BAD, x.told(0, 0));
        x.device(0, 0, NONE);
        check.due("told(-1, 0)", Check.BAD, x.told(-1, 0));
        check.due("told(1, 0)", Check.BAD, x.told(1, 0));
        check.due("told(0, -1)", Check.BAD, x.told(0, -1));
        check.due("told(0, 9)", Check.BAD, x.told(0, 9));
    }

    private static void drawOfSeeds() {
        FleetSlots x = withVersions();
        for (int d = 0; d < 30; d++) {
            x.device(0, 0, NONE);
        }
        int[] seeds = {0, 7, 65535, 65536, -1, 123456789, Integer.MIN_VALUE, Integer.MAX_VALUE};
        for (int z : seeds) {
            check.due("seed(" + z + ")", 1, x.seed(z));
            for (int d = 0; d < 30; d++) {
                java.math.BigInteger sum = java.math.BigInteger.valueOf(2654435761L)
                    .multiply(java.math.BigInteger.valueOf(d + 1)).add(java.math.BigInteger.valueOf(z));
                int bits = sum.shiftRight(16).and(java.math.BigInteger.valueOf(65535)).intValue();
                check.due("DRAW of " + d + " by SEED " + z, bits % 100, x.told(d, 7));
            }
        }
    }

    private static void update() {
        FleetSlots x = withVersions();
        x.device(0, 0, NONE);
        check.due("update(0, 2)", 1, x.update(0, 2));
        check.dueTold("behind it", x, 0, 2, 1, 0, 3, 0, 2, 0, 3, 1);
        check.due("update(0, 2) again", Check.STATE, x.update(0, 2));
        check.due("update(0, 1)", Check.STATE, x.update(0, 1));
        check.dueTold("behind STATE", x, 0, 2, 1, 0, 3, 0, 2, 0, 3, 1);
    }

    private static void updateRefused() {
        FleetSlots x = withVersions();
        check.due("no DEVICE", Check.BAD, x.update(0, 1));
        x.device(0, 1, NONE);
        check.due("update(-1, 2)", Check.BAD, x.update(-1, 2));
        check.due("update(1, 2)", Check.BAD, x.update(1, 2));
        check.due("update(0, -1)", Check.BAD, x.update(0, -1));
        check.due("update(0, 4)", Check.BAD, x.update(0, 4));
        check.due("update(0, 1)", Check.STATE, x.update(0, 1));
        check.due("update(0, 0)", Check.STATE, x.update(0, 0));
        check.dueTold("behind all this", x, 0, 1, 0, NONE, 0, 0, 0, 0, 3, 1);
    }

    private static void updateAfterUpdate() {
        FleetSlots x = withVersions();
        x.device(0, 0, NONE);
        check.due("update(0, 1)", 1, x.update(0, 1));
        check.dueTold("first", x, 0, 1, 1, 0, 3, 0, 0, 0);
        check.due("update(0, 2)", 1, x.update(0, 2));
        check.dueTold("second", x, 0, 2, 0, 1, 2, 0, 2, 0);
        check.due("update(0, 3)", 1, x.update(0, 3));
        check.dueTold("third", x, 0, 3, 1, 2, 8, 0, 2, 0);
    }

    private static void updateThatFails() {
        FleetSlots x = withVersions();
        x.device(1, 0, NONE);
        x.device(7, 1, NONE);
        check.due("update(0, 1)", 0, x.update(0, 1));
        check.dueTold("once", x, 0, 0, 0, 1, 2, 0, 0, 1, 3, 1);
        check.due("update(0, 1)", 0, x.update(0, 1));
        check.dueTold("twice", x, 0, 0, 0, 1, 2, 0, 0, 2, 3, 1);
        check.due("update(1, 2)", 0, x.update(1, 2));
        check.dueTold("FUSE stays", x, 1, 1, 0, 2, 8, 0, 0, 1, 70, 1);
        check.due("update(0, 3)", 1, x.update(0, 3));
        check.dueTold("at last", x, 0, 3, 1, 0, 3, 0, 2, 2, 3, 1);
    }

    private static void acts() {
        FleetSlots x = withVersions();
        x.device(0, 0, NONE);
        x.device(1, 0, NONE);
        x.device(7, 1, NONE);
        check.due("acts(0, 1)", 5, x.acts(0, 1));
        check.due("acts(0, 2)", 11, x.acts(0, 2));
        check.due("acts(0, 3)", 4, x.acts(0, 3));
        check.due("acts(1, 1)", 8, x.acts(1, 1));
        check.due("acts(2, 2)", 14, x.acts(2, 2));
        check.due("acts(-1, 1)", Check.BAD, x.acts(-1, 1));
        check.due("acts(3, 1)", Check.BAD, x.acts(3, 1));
        check.due("acts(0, -1)", Check.BAD, x.acts(0, -1));
        check.due("acts(0, 4)", Check.BAD, x.acts(0, 4));
        check.due("acts(0, 0)", Check.STATE, x.acts(0, 0));
        check.due("acts(2, 0)", Check.STATE, x.acts(2, 0));
        check.dueTold("nothing changed", x, 1, 0, 0, NONE, 0, 0, 0, 0, 70, 1);
    }

    /** VERSION 1 has 2 BLOCKS: ERASE, BLOCK, BLOCK, MARK, START. */
    private static void powerOfAGoodVersion() {
        int[] blocksThere = {0, 0, 1, 2};
        for (int acts = 0; acts <= 5; acts++) {
            FleetSlots x = withVersions();
            x.device(0, 0, NONE);
            boolean taken = acts >= 4;
            check.due("power(0, 1, " + acts + ")", taken ? 1 : 0, x.power(0, 1, acts));
            if (taken) {
                check.dueTold("behind " + acts, x, 0, 1, 1, 0, 3, 0, 0, 0, 3, 1);
            } else {
                int other = acts < 2 ? NONE : 1;
                check.dueTold("behind " + acts, x, 0, 0, 0, other, blocksThere[acts], 0, 0, 1, 3, 1);
            }
        }
    }

    private static void powerOfAnAilingVersion() {
        for (int acts = 0; acts <= 8; acts++) {
            FleetSlots x = withVersions();
            x.device(1, 0, NONE);
            check.due("power(0, 1, " + acts + ")", 0, x.power(0, 1, acts));
            int blocks = Math.max(0, Math.min(2, acts - 1));
            check.dueTold("behind " + acts, x, 0, 0, 0, blocks == 0 ? NONE : 1, blocks, 0, 0, 1, 3, 1);
        }
    }

    private static void powerRefused() {
        FleetSlots x = withVersions();
        x.device(0, 1, NONE);
        x.device(7, 1, NONE);
        check.due("power(-1, 2, 0)", Check.BAD, x.power(-1, 2, 0));
        check.due("power(2, 2, 0)", Check.BAD, x.power(2, 2, 0));
        check.due("power(0, -1, 0)", Check.BAD, x.power(0, -1, 0));
        check.due("power(0, 4, 0)", Check.BAD, x.power(0, 4, 0));
        check.due("power(0, 2, -1)", Check.BAD, x.power(0, 2, -1));
        check.due("power(0, 2, 15)", Check.BAD, x.power(0, 2, 15));
        check.due("BAD is ahead of STATE", Check.BAD, x.power(0, 1, 15));
        check.due("BAD is ahead of STATE", Check.BAD, x.power(0, 1, -1));
        check.due("power(0, 1, 0)", Check.STATE, x.power(0, 1, 0));
        check.due("STATE is ahead of ACTS above all", Check.STATE, x.power(0, 0, 14));
        check.due("ACTS above all", Check.BAD, x.power(0, 2, 12));
        check.due("ACTS above all", Check.BAD, x.power(0, 3, 5));
        check.due("ACTS above all, ailing", Check.BAD, x.power(1, 3, 5));
        check.dueTold("nothing changed", x, 0, 1, 0, NONE, 0, 0, 0, 0);
        check.dueTold("nothing changed", x, 1, 1, 0, NONE, 0, 0, 0, 0);
        check.due("all ACTS", 0, x.power(1, 2, 14));
        check.due("all ACTS", 1, x.power(0, 2, 11));
    }

    /** What an earlier UPDATE left in the other SLOT goes with ERASE, and is not TRIED without MARK. */
    private static void powerOverWhatIsThere() {
        FleetSlots x = withVersions();
        x.device(1, 0, NONE);
        x.update(0, 1);
        check.due("0 ACTS", 0, x.power(0, 2, 0));
        check.dueTold("the other SLOT stays", x, 0, 0, 0, 1, 2, 0, 0, 2);
        check.due("1 ACT", 0, x.power(0, 2, 1));
        check.dueTold("the other SLOT is erased", x, 0, 0, 0, NONE, 0, 0, 0, 3);
        check.due("all BLOCKS, no MARK", 0, x.power(0, 2, 9));
        check.dueTold("WHOLE, but not TRIED", x, 0, 0, 0, 2, 8, 0, 0, 4);
        check.due("0 ACTS of the same", 0, x.power(0, 2, 0));
        check.dueTold("still not TRIED", x, 0, 0, 0, 2, 8, 0, 0, 5);
        check.due("MARK", 1, x.power(0, 2, 10));
        check.dueTold("TAKEN", x, 0, 2, 1, 0, 3, 0, 2, 5);
    }

    private static void cutOfAGoodVersion() {
        FleetSlots x = withVersions();
        x.device(0, 0, NONE);
        int[] version = {0, 0, 0, 3, 3};
        int[] blocks = {0, 0, 1, 3, 3};
        int[] fuse = {0, 0, 0, 2, 2};
        for (int acts = 0; acts <= 4; acts++) {
            check.due("ALIVE behind " + acts, 1, x.cut(0, 3, acts, 0));
            check.due("VERSION behind " + acts, version[acts], x.cut(0, 3, acts, 1));
            check.due("BLOCKS behind " + acts, blocks[acts], x.cut(0, 3, acts, 2));
            check.due("FUSE behind " + acts, fuse[acts], x.cut(0, 3, acts, 3));
            check.dueTold("nothing changed", x, 0, 0, 0, NONE, 0, 0, 0, 0, 3, 1);
        }
    }

    private static void cutRefused() {
        FleetSlots x = withVersions();
        x.device(0, 1, NONE);
        check.due("cut(-1, 2, 0, 0)", Check.BAD, x.cut(-1, 2, 0, 0));
        check.due("cut(1, 2, 0, 0)", Check.BAD, x.cut(1, 2, 0, 0));
        check.due("cut(0, -1, 0, 0)", Check.BAD, x.cut(0, -1, 0, 0));
        check.due("cut(0, 4, 0, 0)", Check.BAD, x.cut(0, 4, 0, 0));
        check.due("cut(0, 2, -1, 0)", Check.BAD, x.cut(0, 2, -1, 0));
        check.due("cut(0, 2, 15, 0)", Check.BAD, x.cut(0, 2, 15, 0));
        check.due("cut(0, 2, 0, -1)", Check.BAD, x.cut(0, 2, 0, -1));
        check.due("cut(0, 2, 0, 4)", Check.BAD, x.cut(0, 2, 0, 4));
        check.due("BAD is ahead of STATE: what", Check.BAD, x.cut(0, 1, 0, 4));
        check.due("BAD is ahead of STATE: ACTS", Check.BAD, x.cut(0, 1, 15, 0));
        check.due("cut(0, 1, 0, 0)", Check.STATE, x.cut(0, 1, 0, 0));
        check.due("STATE is ahead of ACTS above all", Check.STATE, x.cut(0, 0, 14, 0));
        check.due("ACTS above all", Check.BAD, x.cut(0, 3, 5, 0));
        check.due("ACTS above all", Check.BAD, x.cut(0, 2, 12, 3));
        check.due("all ACTS", 2, x.cut(0, 2, 11, 3));
    }

    /** Whatever has been, there is a whole program to start: ALIVE stays 1. */
    private static void cutIsWhatPowerDoes() {
        Random random = new Random(11);
        for (int run = 0; run < 60; run++) {
            FleetSlots x = new FleetSlots();
            int floor = 0;
            for (int v = 0; v < 10; v++) {
                floor = Math.max(floor, random.nextInt(v + 1) / 2);
                x.version(1 + random.nextInt(8), floor, v == 0 ? 0 : random.nextInt(256));
            }
            x.device(random.nextInt(8), 0, NONE);
            for (int k = 0; k < 40; k++) {
                int v = random.nextInt(10);
                int acts = random.nextInt(15);
                int all = x.acts(0, v);
                boolean fits = all >= acts;
                int[] wants = new int[4];
                for (int what = 0; what < 4; what++) {
                    wants[what] = x.cut(0, v, acts, what);
                }
                int ahead = x.told(0, 0);
                int fails = x.told(0, 6);
                int taken = x.power(0, v, acts);
                if (all == Check.STATE || !fits) {
                    int want = all == Check.STATE ? Check.STATE : Check.BAD;
                    check.due("power is refused", want, taken);
                    check.due("cut is refused", want, wants[0]);
                    continue;
                }
                check.due("ALIVE as foretold", wants[0], x.told(0, 8));
                check.due("ALIVE", 1, x.told(0, 8));
                check.due("VERSION as foretold", wants[1], x.told(0, 0));
                check.due("BLOCKS as foretold", wants[2], x.told(0, 3));
                check.due("FUSE as foretold", wants[3], x.told(0, 5));
                check.due("TAKEN is ON", taken == 1 ? v : ahead, x.told(0, 0));
                check.due("fails", fails + 1 - taken, x.told(0, 6));
            }
        }
    }
}
