/** Objects to begin tests with, and what the document says of DRAWS. */
final class Fleet {
    static final int NONE = FleetSlots.NONE;
    private static final int ALL = 30;

    private Fleet() {
    }

    /** So many VERSIONS of one BLOCK, FLOOR 0, that AIL nowhere. */
    static FleetSlots ofVersions(int many) {
        FleetSlots x = new FleetSlots();
        for (int v = 0; v < many; v++) {
            x.version(1, 0, 0);
        }
        return x;
    }

    /** VERSION 0 and 30 DEVICES of SORT 0 at it. */
    static FleetSlots of30() {
        FleetSlots x = ofVersions(1);
        devices(x, ALL);
        return x;
    }

    static void devices(FleetSlots x, int many) {
        for (int d = 0; d < many; d++) {
            x.device(0, 0, NONE);
        }
    }

    /** SHEET 0 of bytes, its ITEMS being these. */
    static void shares(FleetSlots x, int... shares) {
        items(x, 0, 0, shares);
    }

    static void items(FleetSlots x, int sheet, int lane, int... items) {
        x.sheet(sheet, lane, items.length);
        for (int i = 0; i < items.length; i++) {
            x.set(sheet, i, items[i]);
        }
    }

    /** With SEED 0: 3 70 74 41 9 12 80 83 51 18 22 89 .. */
    static int draw(int device) {
        return (int) ((device + 1) * 2654435761L >> 16 & 0xFFFF) % 100;
    }

    /** How many of the 30 DEVICES have a DRAW below a share. */
    static int below(int share) {
        int many = 0;
        for (int d = 0; d < ALL; d++) {
            if (draw(d) < share) {
                many++;
            }
        }
        return many;
    }

    /**
     * Nothing answers an ITEM as it is, but a CAMPAIGN's first share is one: of 30 DEVICES so many have a DRAW below
     * it, and it is BAD where it is not 1 to 100. Changes x: only for objects with 30 DEVICES and VERSION 0.
     */
    static void dueItem(Check check, String when, FleetSlots x, int sheet, int i, int want) {
        boolean isShare = want >= 1 && want <= 100;
        check.due(when + ": ITEM " + i + " of SHEET " + sheet + " as a share", isShare ? below(want) : Check.BAD,
            x.campaign(0, sheet, i, 1, 0));
    }

    static void dueItems(Check check, String when, FleetSlots x, int sheet, int... wants) {
        for (int i = 0; i < wants.length; i++) {
            dueItem(check, when, x, sheet, i, wants[i]);
        }
    }
}
