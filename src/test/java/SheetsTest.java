/** Promises 1 to 5: a new object, and SHEETS. */
public final class SheetsTest {
    private static final Check check = new Check("SheetsTest");

    public static void main(String[] args) {
        newObject();
        sheet();
        sheetReplaces();
        set();
        setOfEachLane();
        copy();
        copyWithinOne();
        copyFindings();
        drop();
        check.end();
    }

    private static void newObject() {
        FleetSlots x = new FleetSlots();
        for (int what = 0; what <= 6; what++) {
            check.due("new: count(" + what + ")", 0, x.count(what));
        }
        check.due("new: status()", 0, x.status());
        check.due("new: trace(0)", Check.NONE, x.trace(0));
        check.due("new: runs(0)", Check.STATE, x.runs(0));
        check.due("new: tick(0)", Check.STATE, x.tick(0));
        check.due("new: told(0, 0)", Check.BAD, x.told(0, 0));
        for (int s = 0; s < 8; s++) {
            check.due("new: drop(" + s + ")", Check.NULL, x.drop(s));
        }
        x.version(1, 0, 0);
        x.device(0, 0, FleetSlots.NONE);
        check.due("new: DRAW with SEED 0", 3, x.told(0, 7));
        x.seed(0);
        check.due("seed(0): DRAW", 3, x.told(0, 7));
    }

    private static void sheet() {
        FleetSlots x = new FleetSlots();
        check.due("sheet(0, 0, 0)", 0, x.sheet(0, 0, 0));
        check.due("sheet(7, 2, 60)", 60, x.sheet(7, 2, 60));
        check.due("sheet(3, 1, 5)", 5, x.sheet(3, 1, 5));
        check.due("count(0)", 3, x.count(0));
        check.due("sheet(-1, 0, 1)", Check.BAD, x.sheet(-1, 0, 1));
        check.due("sheet(8, 0, 1)", Check.BAD, x.sheet(8, 0, 1));
        check.due("sheet(0, -1, 1)", Check.BAD, x.sheet(0, -1, 1));
        check.due("sheet(0, 3, 1)", Check.BAD, x.sheet(0, 3, 1));
        check.due("sheet(0, 0, 61)", Check.BAD, x.sheet(0, 0, 61));
        check.due("sheet(0, 0, MAX)", Check.BAD, x.sheet(0, 0, Integer.MAX_VALUE));
        check.due("BAD is ahead of SIZE: SHEET", Check.BAD, x.sheet(8, 0, -1));
        check.due("BAD is ahead of SIZE: LANE", Check.BAD, x.sheet(0, 3, -1));
        check.due("status() behind BAD", 0, x.status());
        check.due("sheet(1, 0, -1)", Check.SIZE, x.sheet(1, 0, -1));
        check.due("sheet(1, 0, MIN)", Check.SIZE, x.sheet(1, 0, Integer.MIN_VALUE));
        check.due("status() behind SIZE", 4, x.status());
        check.due("count(0) behind what is refused", 3, x.count(0));
        check.due("SIZE leaves the SHEET", Check.SIZE, x.sheet(3, 0, -1));
        check.due("set in the SHEET that stays", 300, x.set(3, 4, 300));
    }

    private static void sheetReplaces() {
        FleetSlots x = new FleetSlots();
        x.version(1, 0, 0);
        x.sheet(0, 2, 3);
        x.set(0, 0, 50);
        check.due("a share of 50", 0, x.campaign(0, 0, 0, 1, 0));
        check.due("sheet(0, 0, 2)", 2, x.sheet(0, 0, 2));
        check.due("ITEMS are 0 at first", Check.BAD, x.campaign(0, 0, 0, 1, 0));
        check.due("the place that is gone", Check.PLACE, x.set(0, 2, 1));
        check.due("the LANE is the new one", 44, x.set(0, 1, 300));
        check.due("count(0)", 1, x.count(0));
        x.sheet(0, 2, 60);
        x.set(0, 59, 7);
        x.sheet(0, 2, 10);
        x.sheet(0, 2, 60);
        check.due("a last ITEM is 0 again", Check.BAD, x.campaign(0, 0, 59, 1, 0));
    }

    private static void set() {
        FleetSlots x = new FleetSlots();
        check.due("set(-1, 0, 0)", Check.BAD, x.set(-1, 0, 0));
        check.due("set(8, 0, 0)", Check.BAD, x.set(8, 0, 0));
        check.due("set(7, 0, 0)", Check.NULL, x.set(7, 0, 0));
        check.due("NULL is ahead of PLACE", Check.NULL, x.set(7, -1, 0));
        check.due("status()", 1, x.status());
        x.sheet(7, 2, 60);
        check.due("set(7, 59, 5)", 5, x.set(7, 59, 5));
        check.due("status()", 0, x.status());
        check.due("set(7, 60, 5)", Check.PLACE, x.set(7, 60, 5));
        check.due("set(7, -1, 5)", Check.PLACE, x.set(7, -1, 5));
        check.due("set(7, MAX, 5)", Check.PLACE, x.set(7, Integer.MAX_VALUE, 5));
        check.due("set(7, MIN, 5)", Check.PLACE, x.set(7, Integer.MIN_VALUE, 5));
        check.due("status()", 2, x.status());
        x.sheet(6, 2, 0);
        check.due("set in a SHEET of none", Check.PLACE, x.set(6, 0, 5));
    }

    private static void setOfEachLane() {
        FleetSlots x = new FleetSlots();
        x.sheet(0, 0, 1);
        x.sheet(1, 1, 1);
        x.sheet(2, 2, 1);
        int[] values = {0, 1, -1, 127, 128, 255, 256, 300, -128, -129, 32767, 32768, 65535, 65536, -32768, -32769,
            Integer.MAX_VALUE, Integer.MIN_VALUE};
        for (int v : values) {
            check.due("a byte of " + v, (byte) v, x.set(0, 0, v));
            check.due("a short of " + v, (short) v, x.set(1, 0, v));
            check.due("an int of " + v, v, x.set(2, 0, v));
        }
    }

    /** A SHEET's ITEM is seen as the share of a CAMPAIGN: so many of the 30 DEVICES have a DRAW below it. */
    private static FleetSlots withDevices() {
        FleetSlots x = new FleetSlots();
        x.version(1, 0, 0);
        for (int d = 0; d < 30; d++) {
            x.device(0, 0, FleetSlots.NONE);
        }
        return x;
    }

    private static int below(int share) {
        int many = 0;
        for (int d = 0; d < 30; d++) {
            if (((d + 1) * 2654435761L >> 16 & 0xFFFF) % 100 < share) {
                many++;
            }
        }
        return many;
    }

    private static void dueItem(FleetSlots x, String when, int sheet, int i, int want) {
        boolean share = want >= 1 && want <= 100;
        check.due(when + ": item " + i, share ? below(want) : Check.BAD, x.campaign(0, sheet, i, 1, 0));
    }

    private static void copy() {
        FleetSlots x = withDevices();
        for (int lane = 0; lane <= 2; lane++) {
            x.sheet(0, lane, 5);
            x.sheet(1, lane, 4);
            for (int i = 0; i < 5; i++) {
                x.set(0, i, 20 * (i + 1));
            }
            check.due("copy(0, 2, 1, 1, 3)", 3, x.copy(0, 2, 1, 1, 3));
            int[] wants = {0, 60, 80, 100};
            for (int i = 0; i < 4; i++) {
                dueItem(x, "LANE " + lane, 1, i, wants[i]);
            }
            dueItem(x, "the source stays", 0, 2, 60);
        }
        check.due("copy of none at the ends", 0, x.copy(0, 5, 1, 4, 0));
        check.due("status()", 0, x.status());
    }

    private static void copyWithinOne() {
        FleetSlots x = withDevices();
        x.sheet(0, 0, 5);
        for (int i = 0; i < 5; i++) {
            x.set(0, i, 20 * (i + 1));
        }
        check.due("copy up within one", 4, x.copy(0, 0, 0, 1, 4));
        int[] up = {20, 20, 40, 60, 80};
        for (int i = 0; i < 5; i++) {
            dueItem(x, "up", 0, i, up[i]);
        }
        check.due("copy down within one", 3, x.copy(0, 2, 0, 0, 3));
        int[] down = {40, 60, 80, 60, 80};
        for (int i = 0; i < 5; i++) {
            dueItem(x, "down", 0, i, down[i]);
        }
    }

    private static void copyFindings() {
        FleetSlots x = new FleetSlots();
        check.due("copy(-1, ..)", Check.BAD, x.copy(-1, 0, 0, 0, 0));
        check.due("copy(.., 8, ..)", Check.BAD, x.copy(0, 0, 8, 0, 0));
        check.due("both missing", Check.NULL, x.copy(0, 0, 1, 0, 0));
        x.sheet(0, 0, 3);
        check.due("the target missing", Check.NULL, x.copy(0, 0, 1, 0, 0));
        check.due("the source missing", Check.NULL, x.copy(1, 0, 0, 0, 0));
        check.due("NULL is ahead of PLACE", Check.NULL, x.copy(0, -1, 1, 0, 9));
        check.due("status()", 1, x.status());
        x.sheet(1, 1, 3);
        check.due("two LANES", Check.STORE, x.copy(0, 0, 1, 0, 1));
        check.due("two LANES, none", Check.STORE, x.copy(0, 0, 1, 0, 0));
        check.due("STORE is ahead of PLACE", Check.STORE, x.copy(0, 9, 1, -1, -1));
        check.due("status()", 5, x.status());
        x.sheet(1, 0, 2);
        int max = Integer.MAX_VALUE;
        int min = Integer.MIN_VALUE;
        int[][] places = {{-1, 0, 1}, {0, -1, 1}, {0, 0, -1}, {0, 0, 3}, {0, 1, 2}, {2, 0, 2}, {4, 0, 0}, {0, 3, 0},
            {max, 0, 1}, {0, max, 1}, {0, 0, max}, {1, 1, max}, {max, max, max}, {min, 0, 1}, {0, min, 1},
            {0, 0, min}, {2, 2, min}, {max, 0, min}, {3, 0, 1}};
        for (int[] p : places) {
            check.due("copy(0, " + p[0] + ", 1, " + p[1] + ", " + p[2] + ")", Check.PLACE,
                x.copy(0, p[0], 1, p[1], p[2]));
        }
        check.due("status()", 2, x.status());
        check.due("to the ends of both", 2, x.copy(0, 1, 1, 0, 2));
        check.due("status()", 0, x.status());
    }

    private static void drop() {
        FleetSlots x = new FleetSlots();
        check.due("drop(-1)", Check.BAD, x.drop(-1));
        check.due("drop(8)", Check.BAD, x.drop(8));
        check.due("drop(0)", Check.NULL, x.drop(0));
        check.due("status()", 1, x.status());
        x.sheet(0, 1, 7);
        x.sheet(5, 2, 0);
        check.due("drop(0)", 7, x.drop(0));
        check.due("status()", 0, x.status());
        check.due("count(0)", 1, x.count(0));
        check.due("drop(0) again", Check.NULL, x.drop(0));
        check.due("set in what is dropped", Check.NULL, x.set(0, 0, 1));
        check.due("drop(5)", 0, x.drop(5));
        check.due("count(0)", 0, x.count(0));
    }
}
