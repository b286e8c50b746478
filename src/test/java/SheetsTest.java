/** Promises 1 to 5, and of the Terms what they say of SHEETS. */
public final class SheetsTest {
    private static final Check check = new Check(SheetsTest.class);
    private static final int BAD = Check.BAD, NULL = Check.NULL, PLACE = Check.PLACE, SIZE = Check.SIZE;
    private static final int STORE = Check.STORE, MAX = Check.MAX, MIN = Check.MIN;

    public static void main(String[] args) throws IllegalAccessException {
        check.runAll();
    }

    // ---- Terms: SHEETS

    @Says("SHEETS 0 .. 7 are missing (at first)")
    static void terms1_all8SheetsAreMissingAtFirst() {
        FleetSlots x = new FleetSlots();
        for (int s = 0; s < 8; s++) {
            check.due("set(" + s + ", 0, 1)", NULL, x.set(s, 0, 1));
            check.due("drop(" + s + ")", NULL, x.drop(s));
        }
    }

    @Says("SHEETS 0 .. 7")
    static void terms1_sheets0And7AreThereMinus1And8AreNot() {
        FleetSlots x = new FleetSlots();
        check.due("sheet(0, ..)", 1, x.sheet(0, 0, 1));
        check.due("sheet(7, ..)", 1, x.sheet(7, 0, 1));
        check.due("sheet(-1, ..)", BAD, x.sheet(-1, 0, 1));
        check.due("sheet(8, ..)", BAD, x.sheet(8, 0, 1));
        check.due("set(-1, ..)", BAD, x.set(-1, 0, 1));
        check.due("set(8, ..)", BAD, x.set(8, 0, 1));
    }

    @Says("or have a LANE (0 bytes, 1 shorts, 2 ints)")
    static void terms1_lane0IsOfBytes1OfShorts2OfInts() {
        FleetSlots x = new FleetSlots();
        for (int lane = 0; lane <= 2; lane++) {
            x.sheet(lane, lane, 1);
        }
        int v = 0x12348765;
        check.due("a byte", 0x65, x.set(0, 0, v));
        check.due("a short", (short) 0x8765, x.set(1, 0, v));
        check.due("an int", v, x.set(2, 0, v));
    }

    @Says("and 0 to 60 ITEMS")
    static void terms1_aSheetOf0ItemsHasNoPlaceOneOf60Has60() {
        FleetSlots x = new FleetSlots();
        check.due("sheet of 0", 0, x.sheet(0, 2, 0));
        check.due("set(0, 0, 5)", PLACE, x.set(0, 0, 5));
        check.due("sheet of 60", 60, x.sheet(1, 2, 60));
        check.due("set(1, 0, 5)", 5, x.set(1, 0, 5));
        check.due("set(1, 59, 5)", 5, x.set(1, 59, 5));
        check.due("set(1, 60, 5)", PLACE, x.set(1, 60, 5));
        check.due("sheet of 61", BAD, x.sheet(2, 2, 61));
    }

    @Says("ITEMS, 0 at first.")
    static void terms1_itemsAre0AtFirst() {
        FleetSlots x = Fleet.of30();
        for (int lane = 0; lane <= 2; lane++) {
            x.sheet(lane, lane, 60);
            for (int i = 0; i < 60; i++) {
                Fleet.dueItem(check, "LANE " + lane, x, lane, i, 0);
            }
        }
    }

    // ---- Promise 1: a new object

    @Says("No SHEETS")
    static void promise01_noSheets() {
        FleetSlots x = new FleetSlots();
        check.due("count(0)", 0, x.count(0));
        for (int s = 0; s < 8; s++) {
            check.due("drop(" + s + ")", NULL, new FleetSlots().drop(s));
        }
    }

    @Says("VERSIONS")
    static void promise01_noVersionsAndNoSteps() {
        FleetSlots x = new FleetSlots();
        check.due("count(1)", 0, x.count(1));
        check.due("count(6)", 0, x.count(6));
        check.due("device(0, 0, NONE)", BAD, x.device(0, 0, Fleet.NONE));
        check.due("path(0, 1, 0)", BAD, x.path(0, 1, 0));
        check.due("the first", 0, x.version(1, 0, 0));
    }

    @Says("DEVICES")
    static void promise01_noDevices() {
        FleetSlots x = Fleet.ofVersions(2);
        for (int what = 2; what <= 5; what++) {
            check.due("count(" + what + ")", 0, x.count(what));
        }
        check.due("told(0, 0)", BAD, x.told(0, 0));
        check.due("kind(0)", BAD, x.kind(0));
        check.due("update(0, 1)", BAD, x.update(0, 1));
        check.due("the first", 0, x.device(0, 0, Fleet.NONE));
    }

    @Says("no CAMPAIGN")
    static void promise01_noCampaign() {
        FleetSlots x = Fleet.of30();
        check.due("tick(0)", Check.STATE, x.tick(0));
        for (int what = 0; what <= 5; what++) {
            check.due("runs(" + what + ")", Check.STATE, x.runs(what));
        }
    }

    @Says("SEED is 0.")
    static void promise01_seedIs0() {
        FleetSlots x = Fleet.of30();
        FleetSlots seeded = Fleet.of30();
        seeded.seed(0);
        for (int d = 0; d < 30; d++) {
            check.due("DRAW of " + d, Fleet.draw(d), x.told(d, 7));
            check.due("DRAW of " + d + " behind seed(0)", Fleet.draw(d), seeded.told(d, 7));
        }
    }

    @Says("No SHEETS, VERSIONS, DEVICES, no CAMPAIGN; SEED is 0.")
    static void promise01_anotherObjectIsNewThough() {
        FleetSlots other = Fleet.of30();
        Fleet.shares(other, 100);
        other.campaign(0, 0, 0, 1, 0);
        other.seed(65536);
        other.set(0, 9, 0);
        other.ask(0, 1);
        FleetSlots x = new FleetSlots();
        for (int what = 0; what <= 6; what++) {
            check.due("count(" + what + ")", 0, x.count(what));
        }
        check.due("runs(0)", Check.STATE, x.runs(0));
        check.due("status()", 0, x.status());
        check.due("trace(0)", Check.NONE, x.trace(0));
        x.version(1, 0, 0);
        x.device(0, 0, Fleet.NONE);
        check.due("DRAW", 3, x.told(0, 7));
    }

    // ---- Promise 2: sheet

    @Says("A SHEET of a LANE with n ITEMS, in place of what is there: n.")
    static void promise02_answersN() {
        FleetSlots x = new FleetSlots();
        for (int lane = 0; lane <= 2; lane++) {
            for (int n = 0; n <= 60; n++) {
                check.due("sheet(3, " + lane + ", " + n + ")", n, x.sheet(3, lane, n));
            }
        }
        check.due("count(0)", 1, x.count(0));
    }

    @Says("in place of what is there")
    static void promise02_aSmallerOneTakesThePlaceOfAGreater() {
        FleetSlots x = new FleetSlots();
        x.sheet(0, 2, 60);
        check.due("sheet(0, 2, 3)", 3, x.sheet(0, 2, 3));
        check.due("set(0, 2, 7)", 7, x.set(0, 2, 7));
        check.due("set(0, 3, 7)", PLACE, x.set(0, 3, 7));
        check.due("sheet(0, 2, 0)", 0, x.sheet(0, 2, 0));
        check.due("set(0, 0, 7)", PLACE, x.set(0, 0, 7));
        check.due("sheet(0, 2, 60)", 60, x.sheet(0, 2, 60));
        check.due("set(0, 59, 7)", 7, x.set(0, 59, 7));
    }

    @Says("in place of what is there")
    static void promise02_oneOfAnotherLaneTakesThePlace() {
        FleetSlots x = new FleetSlots();
        x.sheet(0, 2, 1);
        check.due("an int", 300, x.set(0, 0, 300));
        x.sheet(0, 0, 1);
        check.due("a byte", 44, x.set(0, 0, 300));
        x.sheet(0, 1, 1);
        check.due("a short", 300, x.set(0, 0, 300));
    }

    @Says("A SHEET of a LANE with n ITEMS, in place of what is there")
    static void promise02_theItemsOfTheNewOneAre0() {
        FleetSlots x = Fleet.of30();
        Fleet.items(x, 0, 2, 20, 40, 60);
        x.sheet(0, 2, 3);
        Fleet.dueItems(check, "as large as ahead", x, 0, 0, 0, 0);
        Fleet.items(x, 0, 2, 20, 40, 60);
        x.sheet(0, 2, 1);
        x.sheet(0, 2, 3);
        Fleet.dueItems(check, "once smaller, then as large", x, 0, 0, 0, 0);
        Fleet.items(x, 0, 2, 20, 40, 60);
        x.sheet(0, 0, 3);
        Fleet.dueItems(check, "of another LANE", x, 0, 0, 0, 0);
    }

    @Says("BAD: SHEET")
    static void promise02_sheetMinus1And8AreBad() {
        FleetSlots x = new FleetSlots();
        for (int s : new int[] {-1, 8, MIN, MAX}) {
            check.due("sheet(" + s + ", 0, 1)", BAD, x.sheet(s, 0, 1));
        }
        check.due("count(0)", 0, x.count(0));
    }

    @Says("BAD: SHEET, LANE")
    static void promise02_laneMinus1And3AreBad() {
        FleetSlots x = new FleetSlots();
        for (int lane : new int[] {-1, 3, MIN, MAX}) {
            check.due("sheet(0, " + lane + ", 1)", BAD, x.sheet(0, lane, 1));
        }
        check.due("count(0)", 0, x.count(0));
    }

    @Says("n above 60")
    static void promise02_moreThan60ItemsAreBad() {
        FleetSlots x = new FleetSlots();
        check.due("sheet(0, 0, 61)", BAD, x.sheet(0, 0, 61));
        check.due("sheet(0, 0, MAX)", BAD, x.sheet(0, 0, MAX));
        check.due("count(0)", 0, x.count(0));
        check.due("sheet(0, 0, 60)", 60, x.sheet(0, 0, 60));
    }

    @Says("SIZE.")
    static void promise02_fewerThanNoneIsSize() {
        FleetSlots x = new FleetSlots();
        check.due("sheet(0, 0, -1)", SIZE, x.sheet(0, 0, -1));
        check.due("status()", 4, x.status());
        check.due("sheet(7, 2, MIN)", SIZE, x.sheet(7, 2, MIN));
        check.due("count(0)", 0, x.count(0));
        check.due("sheet(0, 0, 0) is none, not fewer", 0, x.sheet(0, 0, 0));
        check.due("status()", 0, x.status());
    }

    @Says("BAD: SHEET, LANE, n above 60; SIZE.")
    static void promise02_badIsAheadOfSize() {
        FleetSlots x = new FleetSlots();
        check.due("sheet(8, 0, -1)", BAD, x.sheet(8, 0, -1));
        check.due("sheet(-1, 0, -1)", BAD, x.sheet(-1, 0, -1));
        check.due("sheet(0, 3, -1)", BAD, x.sheet(0, 3, -1));
        check.due("sheet(0, -1, -1)", BAD, x.sheet(0, -1, -1));
        check.due("status()", 0, x.status());
    }

    @Says("SIZE.")
    static void promise02_whatIsRefusedLeavesTheSheetThatIsThere() {
        FleetSlots x = Fleet.of30();
        Fleet.items(x, 0, 1, 20, 40);
        x.sheet(0, 2, -1);
        x.sheet(0, 0, 61);
        x.sheet(0, 3, 1);
        Fleet.dueItems(check, "behind SIZE and BAD", x, 0, 20, 40);
        check.due("still of shorts", (short) 40000, x.set(0, 0, 40000));
        check.due("still of 2 ITEMS", PLACE, x.set(0, 2, 1));
    }

    // ---- Promise 3: set

    @Says("ITEM i becomes v")
    static void promise03_theItemBecomesVAndNoOtherOne() {
        FleetSlots x = Fleet.of30();
        for (int lane = 0; lane <= 2; lane++) {
            x.sheet(0, lane, 3);
            x.sheet(1, lane, 3);
            check.due("set(0, 1, 50)", 50, x.set(0, 1, 50));
            Fleet.dueItems(check, "LANE " + lane, x, 0, 0, 50, 0);
            Fleet.dueItems(check, "the other SHEET", x, 1, 0, 0, 0);
            check.due("set(0, 1, 80) anew", 80, x.set(0, 1, 80));
            Fleet.dueItems(check, "LANE " + lane, x, 0, 0, 80, 0);
        }
    }

    @Says("its lowest bits, as many as the LANE has (read with their sign): what it is then.")
    static void promise03_aByteWrapsAround() {
        FleetSlots x = new FleetSlots();
        x.sheet(0, 0, 1);
        int[][] rows = {{0, 0}, {127, 127}, {128, -128}, {255, -1}, {256, 0}, {300, 44}, {-1, -1}, {-128, -128},
            {-129, 127}, {-256, 0}, {-257, -1}, {32767, -1}, {MAX, -1}, {MIN, 0}, {MIN + 127, 127}};
        for (int[] row : rows) {
            check.due("a byte of " + row[0], row[1], x.set(0, 0, row[0]));
        }
    }

    @Says("its lowest bits, as many as the LANE has (read with their sign)")
    static void promise03_aShortWrapsAround() {
        FleetSlots x = new FleetSlots();
        x.sheet(0, 1, 1);
        int[][] rows = {{0, 0}, {128, 128}, {255, 255}, {32767, 32767}, {32768, -32768}, {65535, -1}, {65536, 0},
            {65836, 300}, {-1, -1}, {-32768, -32768}, {-32769, 32767}, {-65536, 0}, {MAX, -1}, {MIN, 0}};
        for (int[] row : rows) {
            check.due("a short of " + row[0], row[1], x.set(0, 0, row[0]));
        }
    }

    @Says("its lowest bits, as many as the LANE has (read with their sign)")
    static void promise03_anIntStaysAsItIs() {
        FleetSlots x = new FleetSlots();
        x.sheet(0, 2, 1);
        for (int v : new int[] {0, 128, 255, 256, 32768, 65535, 65536, -1, -129, -32769, MAX, MIN}) {
            check.due("an int of " + v, v, x.set(0, 0, v));
        }
    }

    @Says("what it is then")
    static void promise03_whatIsKeptIsWhatIsAnswered() {
        FleetSlots x = Fleet.of30();
        x.sheet(0, 0, 1);
        check.due("set(0, 0, 356)", 100, x.set(0, 0, 356));
        Fleet.dueItem(check, "a byte of 356", x, 0, 0, 100);
        check.due("set(0, 0, 200)", -56, x.set(0, 0, 200));
        Fleet.dueItem(check, "a byte of 200", x, 0, 0, -56);
        x.sheet(0, 1, 1);
        check.due("set(0, 0, 65536 + 70)", 70, x.set(0, 0, 65536 + 70));
        Fleet.dueItem(check, "a short of 65606", x, 0, 0, 70);
        x.sheet(0, 2, 1);
        check.due("set(0, 0, 356)", 356, x.set(0, 0, 356));
        Fleet.dueItem(check, "an int of 356", x, 0, 0, 356);
    }

    @Says("BAD: SHEET")
    static void promise03_sheetMinus1And8AreBad() {
        FleetSlots x = new FleetSlots();
        for (int s : new int[] {-1, 8, MIN, MAX}) {
            check.due("set(" + s + ", 0, 1)", BAD, x.set(s, 0, 1));
        }
        check.due("status()", 0, x.status());
    }

    @Says("NULL")
    static void promise03_aSheetThatIsMissingIsNull() {
        FleetSlots x = new FleetSlots();
        check.due("set(0, 0, 1)", NULL, x.set(0, 0, 1));
        check.due("status()", 1, x.status());
        x.sheet(7, 0, 1);
        check.due("set(7, 0, 1)", 1, x.set(7, 0, 1));
        x.drop(7);
        check.due("dropped", NULL, x.set(7, 0, 1));
        check.due("count(0)", 0, x.count(0));
    }

    @Says("PLACE.")
    static void promise03_beyondAnEndIsPlace() {
        FleetSlots x = new FleetSlots();
        x.sheet(0, 0, 3);
        check.due("set(0, 0, 5)", 5, x.set(0, 0, 5));
        check.due("set(0, 2, 5)", 5, x.set(0, 2, 5));
        check.due("status()", 0, x.status());
        for (int i : new int[] {-1, 3, 59, 60, MIN, MAX}) {
            check.due("set(0, " + i + ", 5)", PLACE, x.set(0, i, 5));
            check.due("status()", 2, x.status());
        }
    }

    @Says("NULL; PLACE.")
    static void promise03_nullIsAheadOfPlaceBadAheadOfBoth() {
        FleetSlots x = new FleetSlots();
        check.due("set(0, -1, 1)", NULL, x.set(0, -1, 1));
        check.due("set(0, 60, 1)", NULL, x.set(0, 60, 1));
        check.due("set(8, -1, 1)", BAD, x.set(8, -1, 1));
    }

    // ---- Promise 4: copy

    @Says("n ITEMS of a from i on come to b from j on")
    static void promise04_itemsComeToAnotherSheet() {
        FleetSlots x = Fleet.of30();
        for (int lane = 0; lane <= 2; lane++) {
            Fleet.items(x, 0, lane, 20, 40, 60, 80, 100);
            Fleet.items(x, 1, lane, 10, 30, 50, 70);
            check.due("copy(0, 2, 1, 1, 2)", 2, x.copy(0, 2, 1, 1, 2));
            Fleet.dueItems(check, "LANE " + lane, x, 1, 10, 60, 80, 70);
            Fleet.dueItems(check, "the source stays", x, 0, 20, 40, 60, 80, 100);
        }
    }

    @Says("as they were ahead")
    static void promise04_upWithinOneSheetTheyAreAsTheyWereAhead() {
        FleetSlots x = Fleet.of30();
        for (int lane = 0; lane <= 2; lane++) {
            Fleet.items(x, 0, lane, 20, 40, 60, 80, 100);
            check.due("copy(0, 0, 0, 1, 4)", 4, x.copy(0, 0, 0, 1, 4));
            Fleet.dueItems(check, "up", x, 0, 20, 20, 40, 60, 80);
        }
    }

    @Says("as they were ahead")
    static void promise04_downWithinOneSheetTheyAreAsTheyWereAhead() {
        FleetSlots x = Fleet.of30();
        for (int lane = 0; lane <= 2; lane++) {
            Fleet.items(x, 0, lane, 20, 40, 60, 80, 100);
            check.due("copy(0, 1, 0, 0, 4)", 4, x.copy(0, 1, 0, 0, 4));
            Fleet.dueItems(check, "down", x, 0, 40, 60, 80, 100, 100);
        }
    }

    @Says("as they were ahead")
    static void promise04_ontoThemselvesTheyStay() {
        FleetSlots x = Fleet.of30();
        Fleet.items(x, 0, 2, 20, 40, 60);
        check.due("copy(0, 0, 0, 0, 3)", 3, x.copy(0, 0, 0, 0, 3));
        Fleet.dueItems(check, "all", x, 0, 20, 40, 60);
    }

    @Says("from j on, as they were ahead: n.")
    static void promise04_noneAndAllFit() {
        FleetSlots x = Fleet.of30();
        Fleet.items(x, 0, 0, 20, 40, 60);
        x.sheet(1, 0, 3);
        x.set(0, 9, 0);
        check.due("none, at both ends", 0, x.copy(0, 3, 1, 3, 0));
        check.due("status()", 0, x.status());
        Fleet.dueItems(check, "none", x, 1, 0, 0, 0);
        check.due("all", 3, x.copy(0, 0, 1, 0, 3));
        Fleet.dueItems(check, "all", x, 1, 20, 40, 60);
        x.sheet(2, 0, 60);
        x.sheet(3, 0, 60);
        check.due("all of 60", 60, x.copy(2, 0, 3, 0, 60));
        x.sheet(4, 0, 0);
        check.due("none of none", 0, x.copy(4, 0, 4, 0, 0));
    }

    @Says("BAD: SHEETS")
    static void promise04_sheetsMinus1And8AreBad() {
        FleetSlots x = new FleetSlots();
        x.sheet(0, 0, 1);
        for (int s : new int[] {-1, 8, MIN, MAX}) {
            check.due("copy(" + s + ", 0, 0, 0, 0)", BAD, x.copy(s, 0, 0, 0, 0));
            check.due("copy(0, 0, " + s + ", 0, 0)", BAD, x.copy(0, 0, s, 0, 0));
        }
        x.set(0, 5, 0);
        check.due("BAD is ahead of NULL", BAD, x.copy(1, 0, 8, 0, 0));
        check.due("BAD is ahead of NULL", BAD, x.copy(8, 0, 1, 0, 0));
        check.due("status() is not that of BAD", 2, x.status());
    }

    @Says("NULL")
    static void promise04_oneThatIsMissingIsNull() {
        FleetSlots x = new FleetSlots();
        check.due("both", NULL, x.copy(0, 0, 1, 0, 0));
        check.due("one and itself", NULL, x.copy(0, 0, 0, 0, 0));
        x.sheet(0, 0, 3);
        check.due("the one to copy to", NULL, x.copy(0, 0, 1, 0, 0));
        check.due("the one to copy from", NULL, x.copy(1, 0, 0, 0, 0));
        check.due("status()", 1, x.status());
        check.due("NULL is ahead of STORE", NULL, x.copy(1, 0, 0, 0, 1));
        check.due("NULL is ahead of PLACE", NULL, x.copy(0, -1, 1, 0, 9));
        check.due("count(0)", 1, x.count(0));
    }

    @Says("STORE")
    static void promise04_twoLanesAreStore() {
        FleetSlots x = new FleetSlots();
        for (int lane = 0; lane <= 2; lane++) {
            x.sheet(lane, lane, 3);
            x.sheet(lane + 3, lane, 3);
        }
        for (int a = 0; a <= 2; a++) {
            for (int b = 0; b <= 2; b++) {
                String call = "copy(" + a + ", 0, " + (b + 3) + ", 0, 1)";
                check.due(call, a == b ? 1 : STORE, x.copy(a, 0, b + 3, 0, 1));
                check.due("status()", a == b ? 0 : 5, x.status());
            }
        }
        check.due("none, but of two LANES", STORE, x.copy(0, 0, 1, 0, 0));
    }

    @Says("STORE; PLACE")
    static void promise04_storeIsAheadOfPlace() {
        FleetSlots x = new FleetSlots();
        x.sheet(0, 0, 3);
        x.sheet(1, 1, 3);
        check.due("copy(0, 9, 1, 0, 1)", STORE, x.copy(0, 9, 1, 0, 1));
        check.due("copy(0, 0, 1, -1, 1)", STORE, x.copy(0, 0, 1, -1, 1));
        check.due("copy(0, 0, 1, 0, -1)", STORE, x.copy(0, 0, 1, 0, -1));
        check.due("status()", 5, x.status());
    }

    @Says("PLACE (i, j, n below 0")
    static void promise04_below0IsPlace() {
        FleetSlots x = new FleetSlots();
        x.sheet(0, 0, 3);
        x.sheet(1, 0, 3);
        int[][] places = {{-1, 0, 1}, {0, -1, 1}, {0, 0, -1}, {-1, 0, 0}, {0, -1, 0}, {3, 3, -1}, {MIN, 0, 1},
            {0, MIN, 1}, {0, 0, MIN}, {MAX, 0, MIN}, {-1, -1, MIN}};
        duePlaces(x, places);
    }

    @Says("or beyond an end).")
    static void promise04_beyondAnEndIsPlace() {
        FleetSlots x = new FleetSlots();
        x.sheet(0, 0, 3);
        x.sheet(1, 0, 2);
        int[][] places = {{0, 0, 3}, {0, 1, 2}, {2, 0, 2}, {3, 0, 1}, {4, 0, 0}, {0, 3, 0}, {0, 2, 1}, {0, 0, 60},
            {MAX, 0, 1}, {0, MAX, 1}, {0, 0, MAX}, {1, 1, MAX}, {MAX, MAX, MAX}, {MAX, 0, MAX}};
        duePlaces(x, places);
        check.due("to the ends of both", 2, x.copy(0, 1, 1, 0, 2));
        check.due("to the ends of both", 1, x.copy(0, 2, 1, 1, 1));
    }

    private static void duePlaces(FleetSlots x, int[][] places) {
        for (int[] p : places) {
            x.copy(0, 0, 0, 0, 0);
            check.due("copy(0, " + p[0] + ", 1, " + p[1] + ", " + p[2] + ")", PLACE, x.copy(0, p[0], 1, p[1], p[2]));
            check.due("status()", 2, x.status());
        }
    }

    // ---- Promise 5: drop

    @Says("A SHEET is missing from now on")
    static void promise05_itIsMissingFromNowOn() {
        FleetSlots x = new FleetSlots();
        x.sheet(0, 1, 7);
        x.sheet(5, 2, 1);
        check.due("drop(0)", 7, x.drop(0));
        check.due("count(0)", 1, x.count(0));
        check.due("set(0, 0, 1)", NULL, x.set(0, 0, 1));
        check.due("copy from it", NULL, x.copy(0, 0, 5, 0, 0));
        check.due("set in the other one", 9, x.set(5, 0, 9));
    }

    @Says("how many ITEMS it had.")
    static void promise05_answersHowManyItemsItHad() {
        FleetSlots x = new FleetSlots();
        for (int n : new int[] {0, 1, 59, 60}) {
            x.sheet(7, 2, n);
            check.due("drop of " + n, n, x.drop(7));
            check.due("status()", 0, x.status());
        }
        check.due("count(0)", 0, x.count(0));
    }

    @Says("A SHEET is missing from now on")
    static void promise05_aNewOneInItsPlaceHasItems0() {
        FleetSlots x = Fleet.of30();
        Fleet.items(x, 0, 2, 20, 40);
        x.drop(0);
        check.due("sheet(0, 0, 3)", 3, x.sheet(0, 0, 3));
        Fleet.dueItems(check, "the new one", x, 0, 0, 0, 0);
        check.due("of bytes", 44, x.set(0, 0, 300));
    }

    @Says("BAD")
    static void promise05_sheetMinus1And8AreBad() {
        FleetSlots x = new FleetSlots();
        for (int s : new int[] {-1, 8, MIN, MAX}) {
            check.due("drop(" + s + ")", BAD, x.drop(s));
        }
        check.due("status()", 0, x.status());
    }

    @Says("NULL.")
    static void promise05_oneThatIsMissingIsNull() {
        FleetSlots x = new FleetSlots();
        check.due("drop(0)", NULL, x.drop(0));
        check.due("status()", 1, x.status());
        x.sheet(0, 0, 4);
        check.due("drop(0)", 4, x.drop(0));
        check.due("drop(0) again", NULL, x.drop(0));
        check.due("status()", 1, x.status());
    }
}
