import java.util.Random;

/** Promises 6 to 9, and of the Terms what they say of VERSIONS, STEPS and PATHS. */
public final class VersionsTest {
    private static final Check check = new Check(VersionsTest.class);
    private static final int BAD = Check.BAD, STATE = Check.STATE, FULL = Check.FULL, NONE = Check.NONE;
    private static final int MAX = Check.MAX, MIN = Check.MIN;

    public static void main(String[] args) throws IllegalAccessException {
        check.runAll();
    }

    /** All that can be seen of a PATH. */
    private static void duePath(FleetSlots x, int from, int to, int bytes, int... versions) {
        String path = "PATH from " + from + " to " + to;
        check.due(path + ": bytes", bytes, x.path(from, to, 0));
        check.due(path + ": STEPS", versions.length - 1, x.path(from, to, 1));
        for (int i = 0; i < versions.length; i++) {
            check.due(path + ": VERSION " + i, versions[i], x.on(from, to, i));
        }
        check.due(path + ": behind the end", NONE, x.on(from, to, versions.length));
    }

    private static void steps(FleetSlots x, int[]... rows) {
        for (int[] row : rows) {
            x.step(row[0], row[1], row[2]);
        }
    }

    // ---- Terms: VERSIONS, STEPS, PATHS

    @Says("VERSIONS 0 .. 9 (10 at most) come with rising numbers")
    static void terms1_versionsAre0To9() {
        FleetSlots x = new FleetSlots();
        for (int v = 0; v < 10; v++) {
            check.due("VERSION " + v, v, x.version(1, 0, 0));
        }
        check.due("an eleventh", FULL, x.version(1, 0, 0));
        check.due("count(1)", 10, x.count(1));
        check.due("a DEVICE at VERSION 9", 0, x.device(0, 9, NONE));
        check.due("a DEVICE at VERSION 10", BAD, x.device(0, 10, NONE));
    }

    @Says("each has 1 to 8 BLOCKS")
    static void terms1_aVersionHas1To8Blocks() {
        FleetSlots x = Fleet.ofVersions(1);
        x.device(0, 0, NONE);
        check.due("0 BLOCKS", BAD, x.version(0, 0, 0));
        check.due("9 BLOCKS", BAD, x.version(9, 0, 0));
        check.due("1 BLOCK", 1, x.version(1, 0, 0));
        check.due("8 BLOCKS", 2, x.version(8, 0, 0));
        check.due("ACTS of 1 BLOCK", 4, x.acts(0, 1));
        check.due("ACTS of 8 BLOCKS", 11, x.acts(0, 2));
    }

    @Says("a FLOOR (0 to its own number, not below that of the one ahead)")
    static void terms1_aFloorIs0ToItsOwnNumberAndDoesNotFall() {
        FleetSlots x = new FleetSlots();
        check.due("VERSION 0: FLOOR -1", BAD, x.version(1, -1, 0));
        check.due("VERSION 0: FLOOR 1", BAD, x.version(1, 1, 0));
        check.due("VERSION 0: FLOOR 0", 0, x.version(1, 0, 0));
        check.due("VERSION 1: FLOOR 2", BAD, x.version(1, 2, 0));
        check.due("VERSION 1: FLOOR 1", 1, x.version(1, 1, 0));
        check.due("VERSION 2: FLOOR 0, below that of 1", BAD, x.version(1, 0, 0));
        check.due("VERSION 2: FLOOR 1, that of 1", 2, x.version(1, 1, 0));
    }

    @Says("and a set of SORTS of devices (bits 0 to 7) on which it AILS.")
    static void terms1_bit0To7OfTheSetIsASortOnWhichItAils() {
        for (int bit = 0; bit <= 7; bit++) {
            FleetSlots x = new FleetSlots();
            x.version(1, 0, 1 << bit);
            for (int sort = 0; sort <= 7; sort++) {
                check.due("set " + (1 << bit) + ", SORT " + sort, sort == bit ? STATE : sort < bit ? sort : sort - 1,
                    x.device(sort, 0, NONE));
            }
        }
        FleetSlots x = new FleetSlots();
        x.version(1, 0, 255);
        x.version(1, 0, 0);
        for (int sort = 0; sort <= 7; sort++) {
            check.due("set 255, SORT " + sort, STATE, x.device(sort, 0, NONE));
            check.due("set 0, SORT " + sort, sort, x.device(sort, 1, NONE));
        }
    }

    @Says("A STEP between two VERSIONS (from a lesser one): its bytes, 1 to 1000.")
    static void terms1_aStepIsFromALesserVersionAndHas1To1000Bytes() {
        FleetSlots x = Fleet.ofVersions(2);
        check.due("from a greater one", BAD, x.step(1, 0, 5));
        check.due("to itself", BAD, x.step(1, 1, 5));
        check.due("0 bytes", BAD, x.step(0, 1, 0));
        check.due("1001 bytes", BAD, x.step(0, 1, 1001));
        check.due("1 byte", 0, x.step(0, 1, 1));
        check.due("1000 bytes", 1, x.step(0, 1, 1000));
        duePath(x, 0, 1, 1000, 0, 1);
    }

    @Says("PATH from a VERSION to a greater one: STEPS one behind the other of least bytes")
    static void terms1_aPathIsOfLeastBytes() {
        FleetSlots x = Fleet.ofVersions(4);
        steps(x, new int[][] {{0, 3, 100}, {0, 1, 33}, {1, 2, 33}, {2, 3, 33}});
        duePath(x, 0, 3, 99, 0, 1, 2, 3);
        x.step(0, 3, 98);
        duePath(x, 0, 3, 98, 0, 3);
        x.step(1, 3, 1);
        duePath(x, 0, 3, 34, 0, 1, 3);
    }

    @Says("of several the one with fewest STEPS")
    static void terms1_ofEqualBytesItIsThatOfFewestSteps() {
        FleetSlots x = Fleet.ofVersions(5);
        steps(x, new int[][] {{0, 1, 10}, {1, 2, 10}, {2, 3, 10}, {0, 2, 20}});
        duePath(x, 0, 3, 30, 0, 2, 3);
        x.step(0, 3, 30);
        duePath(x, 0, 3, 30, 0, 3);
        FleetSlots y = Fleet.ofVersions(5);
        steps(y, new int[][] {{0, 1, 10}, {1, 2, 10}, {2, 4, 10}, {0, 3, 20}, {3, 4, 10}});
        duePath(y, 0, 4, 30, 0, 3, 4);
    }

    @Says("of several that of which the VERSIONS are the least from the first on.")
    static void terms1_ofAsManyStepsItIsThatOfTheLeastVersionsFromTheFirstOn() {
        FleetSlots x = Fleet.ofVersions(6);
        steps(x, new int[][] {{0, 2, 10}, {2, 3, 10}, {3, 5, 10}, {0, 1, 10}, {1, 4, 10}, {4, 5, 10}});
        duePath(x, 0, 5, 30, 0, 1, 4, 5);
        x.step(1, 3, 10);
        duePath(x, 0, 5, 30, 0, 1, 3, 5);
        FleetSlots y = Fleet.ofVersions(4);
        steps(y, new int[][] {{0, 1, 4}, {0, 2, 6}, {1, 3, 6}, {2, 3, 4}});
        duePath(y, 0, 3, 10, 0, 1, 3);
    }

    // ---- Promise 6: version

    @Says("A VERSION: its number.")
    static void promise06_answersItsNumber() {
        FleetSlots x = new FleetSlots();
        check.due("the first", 0, x.version(1, 0, 0));
        check.due("the second", 1, x.version(8, 1, 255));
        check.due("a BAD one takes no number", BAD, x.version(0, 1, 0));
        check.due("the third", 2, x.version(1, 1, 0));
        check.due("count(1)", 3, x.count(1));
    }

    @Says("BAD: BLOCKS")
    static void promise06_0And9BlocksAreBad() {
        FleetSlots x = new FleetSlots();
        for (int blocks : new int[] {0, 9, -1, MIN, MAX}) {
            check.due(blocks + " BLOCKS", BAD, x.version(blocks, 0, 0));
        }
        check.due("count(1)", 0, x.count(1));
        check.due("1 BLOCK", 0, x.version(1, 0, 0));
        check.due("8 BLOCKS", 1, x.version(8, 0, 0));
    }

    @Says("FLOOR")
    static void promise06_aFloorBelow0IsBad() {
        FleetSlots x = new FleetSlots();
        check.due("FLOOR -1", BAD, x.version(1, -1, 0));
        check.due("FLOOR MIN", BAD, x.version(1, MIN, 0));
        check.due("FLOOR 0", 0, x.version(1, 0, 0));
        check.due("FLOOR -1", BAD, x.version(1, -1, 0));
    }

    @Says("FLOOR")
    static void promise06_aFloorAboveItsOwnNumberIsBad() {
        FleetSlots x = new FleetSlots();
        for (int v = 0; v < 10; v++) {
            check.due("FLOOR " + (v + 1), BAD, x.version(1, v + 1, 0));
            check.due("FLOOR MAX", BAD, x.version(1, MAX, 0));
            check.due("FLOOR " + v, v, x.version(1, v, 0));
        }
    }

    @Says("FLOOR")
    static void promise06_aFloorBelowThatOfTheOneAheadIsBad() {
        FleetSlots x = Fleet.ofVersions(3);
        check.due("FLOOR 2", 3, x.version(1, 2, 0));
        check.due("FLOOR 1", BAD, x.version(1, 1, 0));
        check.due("FLOOR 0", BAD, x.version(1, 0, 0));
        check.due("FLOOR 2", 4, x.version(1, 2, 0));
        check.due("FLOOR 1, not that of the one ahead of that", BAD, x.version(1, 1, 0));
        check.due("FLOOR 5", 5, x.version(1, 5, 0));
        check.due("FLOOR 4", BAD, x.version(1, 4, 0));
    }

    @Says("the set (0 to 255)")
    static void promise06_aSetOfMinus1And256IsBad() {
        FleetSlots x = new FleetSlots();
        for (int set : new int[] {-1, 256, MIN, MAX}) {
            check.due("a set of " + set, BAD, x.version(1, 0, set));
        }
        check.due("count(1)", 0, x.count(1));
        check.due("a set of 0", 0, x.version(1, 0, 0));
        check.due("a set of 255", 1, x.version(1, 0, 255));
    }

    @Says("FULL: 10.")
    static void promise06_anEleventhIsFull() {
        FleetSlots x = Fleet.ofVersions(9);
        check.due("the tenth", 9, x.version(1, 0, 0));
        check.due("an eleventh", FULL, x.version(1, 0, 0));
        check.due("and again", FULL, x.version(8, 5, 255));
        check.due("count(1)", 10, x.count(1));
        check.due("status()", 0, x.status());
    }

    @Says("BAD: BLOCKS, FLOOR, the set (0 to 255); FULL: 10.")
    static void promise06_badIsAheadOfFull() {
        FleetSlots x = Fleet.ofVersions(9);
        x.version(1, 4, 0);
        check.due("BLOCKS", BAD, x.version(0, 4, 0));
        check.due("BLOCKS", BAD, x.version(9, 4, 0));
        check.due("FLOOR below that of the one ahead", BAD, x.version(1, 3, 0));
        check.due("FLOOR above its own number", BAD, x.version(1, 11, 0));
        check.due("the set", BAD, x.version(1, 4, 256));
        check.due("nothing is BAD", FULL, x.version(1, 4, 255));
    }

    // ---- Promise 7: step

    @Says("A STEP's bytes: what they were (0: there was none).")
    static void promise07_answersWhatTheBytesWere() {
        FleetSlots x = Fleet.ofVersions(3);
        check.due("there was none", 0, x.step(0, 1, 7));
        check.due("none between others", 0, x.step(0, 2, 1000));
        check.due("none between others", 0, x.step(1, 2, 1));
        check.due("7", 7, x.step(0, 1, 8));
        check.due("8", 8, x.step(0, 1, 8));
        check.due("8", 8, x.step(0, 1, 1));
        check.due("1000", 1000, x.step(0, 2, 3));
        duePath(x, 0, 1, 1, 0, 1);
    }

    @Says("BAD: VERSIONS (from is less)")
    static void promise07_versionsThatAreNotThereAreBad() {
        FleetSlots x = Fleet.ofVersions(3);
        for (int[] w : new int[][] {{-1, 1}, {0, 3}, {3, 4}, {-2, -1}, {MIN, 0}, {0, MAX}, {MIN, MAX}}) {
            check.due("step(" + w[0] + ", " + w[1] + ", 5)", BAD, x.step(w[0], w[1], 5));
        }
        check.due("count(6)", 0, x.count(6));
        check.due("step(0, 2, 5)", 0, x.step(0, 2, 5));
        FleetSlots y = Fleet.ofVersions(10);
        check.due("step(0, 9, 5)", 0, y.step(0, 9, 5));
        check.due("step(0, 10, 5)", BAD, y.step(0, 10, 5));
    }

    @Says("BAD: VERSIONS (from is less)")
    static void promise07_fromOneThatIsNotLessIsBad() {
        FleetSlots x = Fleet.ofVersions(3);
        check.due("step(1, 1, 5)", BAD, x.step(1, 1, 5));
        check.due("step(0, 0, 5)", BAD, x.step(0, 0, 5));
        check.due("step(2, 1, 5)", BAD, x.step(2, 1, 5));
        check.due("step(2, 0, 5)", BAD, x.step(2, 0, 5));
        check.due("count(6)", 0, x.count(6));
    }

    @Says("bytes.")
    static void promise07_0And1001BytesAreBad() {
        FleetSlots x = Fleet.ofVersions(2);
        x.step(0, 1, 9);
        for (int bytes : new int[] {0, 1001, -1, MIN, MAX}) {
            check.due("step(0, 1, " + bytes + ")", BAD, x.step(0, 1, bytes));
        }
        check.due("what was there stays", 9, x.path(0, 1, 0));
        check.due("1000 bytes", 9, x.step(0, 1, 1000));
        check.due("1 byte", 1000, x.step(0, 1, 1));
    }

    // ---- Promise 8: path

    @Says("Of the PATH: 0 bytes, 1 how many STEPS.")
    static void promise08_what0IsBytes1IsSteps() {
        FleetSlots x = Fleet.ofVersions(10);
        for (int v = 0; v < 9; v++) {
            x.step(v, v + 1, 1000);
        }
        for (int from = 0; from < 10; from++) {
            for (int to = from + 1; to < 10; to++) {
                check.due("bytes", 1000 * (to - from), x.path(from, to, 0));
                check.due("STEPS", to - from, x.path(from, to, 1));
            }
        }
    }

    /** A search must not be led by what an earlier one left. */
    @Says("Of the PATH")
    static void promise08_pathsOneAfterTheOtherAreEachTheirOwn() {
        FleetSlots x = Fleet.ofVersions(4);
        steps(x, new int[][] {{0, 1, 1}, {1, 2, 2}, {2, 3, 4}});
        duePath(x, 0, 3, 7, 0, 1, 2, 3);
        duePath(x, 0, 1, 1, 0, 1);
        duePath(x, 1, 3, 6, 1, 2, 3);
        duePath(x, 0, 2, 3, 0, 1, 2);
        duePath(x, 2, 3, 4, 2, 3);
        duePath(x, 0, 3, 7, 0, 1, 2, 3);
    }

    @Says("BAD: VERSIONS")
    static void promise08_versionsThatAreNotThereOrDoNotRiseAreBad() {
        FleetSlots x = Fleet.ofVersions(3);
        steps(x, new int[][] {{0, 1, 5}, {1, 2, 5}});
        for (int[] w : new int[][] {{-1, 1}, {0, 3}, {0, 0}, {2, 2}, {1, 0}, {2, 0}, {0, -1}, {3, 4}, {MIN, 0},
                {0, MAX}, {MAX, MIN}}) {
            for (int what = 0; what <= 1; what++) {
                check.due("path(" + w[0] + ", " + w[1] + ", " + what + ")", BAD, x.path(w[0], w[1], what));
            }
        }
        check.due("path(0, 2, 0)", 10, x.path(0, 2, 0));
    }

    @Says("what")
    static void promise08_whatMinus1And2AreBad() {
        FleetSlots x = Fleet.ofVersions(3);
        x.step(0, 1, 5);
        for (int what : new int[] {-1, 2, MIN, MAX}) {
            check.due("path(0, 1, " + what + ")", BAD, x.path(0, 1, what));
            check.due("BAD is ahead of NONE", BAD, x.path(1, 2, what));
        }
    }

    @Says("NONE: there is none.")
    static void promise08_whereThereIsNoPathItIsNone() {
        FleetSlots x = Fleet.ofVersions(4);
        check.due("no STEP at all", NONE, x.path(0, 3, 0));
        steps(x, new int[][] {{0, 1, 5}, {2, 3, 5}});
        check.due("a gap", NONE, x.path(0, 3, 0));
        check.due("a gap, STEPS", NONE, x.path(0, 3, 1));
        check.due("to the wrong side of it", NONE, x.path(0, 2, 0));
        check.due("from the wrong side of it", NONE, x.path(1, 3, 0));
        check.due("status()", 0, x.status());
        x.step(1, 2, 5);
        check.due("no gap any more", 15, x.path(0, 3, 0));
    }

    // ---- Promise 9: on

    @Says("VERSION i on the PATH (0: from)")
    static void promise09_version0IsFromTheLastIsTo() {
        FleetSlots x = Fleet.ofVersions(10);
        steps(x, new int[][] {{1, 4, 5}, {4, 5, 5}, {5, 9, 5}});
        int[] wants = {1, 4, 5, 9};
        for (int i = 0; i < wants.length; i++) {
            check.due("on(1, 9, " + i + ")", wants[i], x.on(1, 9, i));
        }
        x.step(8, 9, 1);
        check.due("on(8, 9, 0)", 8, x.on(8, 9, 0));
        check.due("on(8, 9, 1)", 9, x.on(8, 9, 1));
    }

    @Says("NONE: there are not so many (i below 0, too)")
    static void promise09_beyondTheEndsOfThePathItIsNone() {
        FleetSlots x = Fleet.ofVersions(3);
        steps(x, new int[][] {{0, 1, 5}, {1, 2, 5}});
        check.due("on(0, 2, 2)", 2, x.on(0, 2, 2));
        for (int i : new int[] {-1, 3, 9, 10, MIN, MAX}) {
            check.due("on(0, 2, " + i + ")", NONE, x.on(0, 2, i));
        }
        check.due("on(0, 1, 2)", NONE, x.on(0, 1, 2));
    }

    @Says("or no PATH.")
    static void promise09_whereThereIsNoPathItIsNone() {
        FleetSlots x = Fleet.ofVersions(3);
        x.step(0, 1, 5);
        for (int i = -1; i <= 3; i++) {
            check.due("on(0, 2, " + i + ")", NONE, x.on(0, 2, i));
            check.due("on(1, 2, " + i + ")", NONE, x.on(1, 2, i));
        }
    }

    @Says("BAD: VERSIONS.")
    static void promise09_versionsThatAreNotThereOrDoNotRiseAreBad() {
        FleetSlots x = Fleet.ofVersions(3);
        steps(x, new int[][] {{0, 1, 5}, {1, 2, 5}});
        for (int[] w : new int[][] {{-1, 1}, {0, 3}, {0, 0}, {1, 0}, {0, -1}, {3, 4}, {MIN, 0}, {0, MAX}}) {
            for (int i = -1; i <= 1; i++) {
                check.due("on(" + w[0] + ", " + w[1] + ", " + i + ")", BAD, x.on(w[0], w[1], i));
            }
        }
    }

    /** Few different bytes, so that there are many PATHS of equal bytes. */
    @Says("VERSION i on the PATH")
    static void promise09_pathsAreThoseOfASearchThroughAll() {
        Random random = new Random(7);
        for (int run = 0; run < 200; run++) {
            FleetSlots x = Fleet.ofVersions(10);
            int[][] bytes = new int[10][10];
            int dense = 1 + random.nextInt(10);
            int spread = 1 + random.nextInt(4);
            for (int from = 0; from < 10; from++) {
                for (int to = from + 1; to < 10; to++) {
                    if (random.nextInt(10) < dense) {
                        bytes[from][to] = run % 2 == 0 ? 1 + random.nextInt(spread)
                            : to - from + random.nextInt(spread) / 3;
                        x.step(from, to, bytes[from][to]);
                    }
                }
            }
            for (int k = 0; k < 6; k++) {
                dueBestOfAll(x, bytes, random.nextInt(4), 4 + random.nextInt(6));
            }
        }
    }

    private static void dueBestOfAll(FleetSlots x, int[][] bytes, int from, int to) {
        int[] best = bestOfAll(bytes, from, to);
        if (best == null) {
            check.due("no path from " + from + " to " + to, NONE, x.path(from, to, 0));
        } else {
            duePath(x, from, to, bytesOf(bytes, best), best);
        }
    }

    /** Every set of VERSIONS between from and to, as the PATH through it. */
    private static int[] bestOfAll(int[][] bytes, int from, int to) {
        int[] best = null;
        int between = to - from - 1;
        for (int set = 0; set < 1 << between; set++) {
            int[] path = new int[Integer.bitCount(set) + 2];
            path[0] = from;
            path[path.length - 1] = to;
            int many = 1;
            for (int k = 0; k < between; k++) {
                if ((set >> k & 1) != 0) {
                    path[many] = from + 1 + k;
                    many++;
                }
            }
            if (bytesOf(bytes, path) >= 0 && (best == null || isBetter(bytes, path, best))) {
                best = path;
            }
        }
        return best;
    }

    private static int bytesOf(int[][] bytes, int[] path) {
        int sum = 0;
        for (int k = 1; k < path.length; k++) {
            int step = bytes[path[k - 1]][path[k]];
            if (step == 0) {
                return -1;
            }
            sum += step;
        }
        return sum;
    }

    private static boolean isBetter(int[][] bytes, int[] path, int[] best) {
        int difference = bytesOf(bytes, path) - bytesOf(bytes, best);
        if (difference == 0) {
            difference = path.length - best.length;
        }
        for (int k = 0; difference == 0 && k < path.length; k++) {
            difference = path[k] - best[k];
        }
        return difference < 0;
    }
}
