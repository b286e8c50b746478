import java.util.Random;

/** Promises 6 to 9: VERSIONS, STEPS and PATHS. */
public final class VersionsTest {
    private static final Check check = new Check("VersionsTest");

    public static void main(String[] args) {
        version();
        versionFull();
        step();
        pathRefused();
        pathOfLeastBytes();
        pathOfFewestSteps();
        pathsOneAfterTheOther();
        pathOfLeastVersions();
        pathsAreThoseOfASearchThroughAll();
        check.end();
    }

    private static void version() {
        FleetSlots x = new FleetSlots();
        check.due("0 BLOCKS", Check.BAD, x.version(0, 0, 0));
        check.due("9 BLOCKS", Check.BAD, x.version(9, 0, 0));
        check.due("FLOOR -1", Check.BAD, x.version(1, -1, 0));
        check.due("FLOOR above its number", Check.BAD, x.version(1, 1, 0));
        check.due("a set of -1", Check.BAD, x.version(1, 0, -1));
        check.due("a set of 256", Check.BAD, x.version(1, 0, 256));
        check.due("count(1)", 0, x.count(1));
        check.due("the first", 0, x.version(1, 0, 0));
        check.due("8 BLOCKS, FLOOR 1, all SORTS", 1, x.version(8, 1, 255));
        check.due("FLOOR below that of the one ahead", Check.BAD, x.version(1, 0, 0));
        check.due("FLOOR above its number", Check.BAD, x.version(1, 3, 0));
        check.due("FLOOR as the one ahead", 2, x.version(1, 1, 0));
        check.due("FLOOR its own number", 3, x.version(1, 3, 0));
        check.due("count(1)", 4, x.count(1));
        check.due("status()", 0, x.status());
    }

    private static void versionFull() {
        FleetSlots x = new FleetSlots();
        for (int v = 0; v < 10; v++) {
            check.due("version " + v, v, x.version(1, v / 2, 0));
        }
        check.due("an eleventh", Check.FULL, x.version(1, 4, 0));
        check.due("BAD is ahead of FULL: BLOCKS", Check.BAD, x.version(0, 4, 0));
        check.due("BAD is ahead of FULL: FLOOR", Check.BAD, x.version(1, 3, 0));
        check.due("BAD is ahead of FULL: FLOOR", Check.BAD, x.version(1, 11, 0));
        check.due("BAD is ahead of FULL: the set", Check.BAD, x.version(1, 4, 256));
        check.due("count(1)", 10, x.count(1));
    }

    private static FleetSlots withVersions(int many) {
        FleetSlots x = new FleetSlots();
        for (int v = 0; v < many; v++) {
            x.version(1, 0, 0);
        }
        return x;
    }

    private static void step() {
        FleetSlots x = withVersions(3);
        check.due("step(-1, 1, 5)", Check.BAD, x.step(-1, 1, 5));
        check.due("step(0, 3, 5)", Check.BAD, x.step(0, 3, 5));
        check.due("step(1, 1, 5)", Check.BAD, x.step(1, 1, 5));
        check.due("step(2, 1, 5)", Check.BAD, x.step(2, 1, 5));
        check.due("step(0, 1, 0)", Check.BAD, x.step(0, 1, 0));
        check.due("step(0, 1, 1001)", Check.BAD, x.step(0, 1, 1001));
        check.due("count(6)", 0, x.count(6));
        check.due("step(0, 1, 1)", 0, x.step(0, 1, 1));
        check.due("step(0, 2, 1000)", 0, x.step(0, 2, 1000));
        check.due("step(0, 1, 9)", 1, x.step(0, 1, 9));
        check.due("step(0, 2, 3)", 1000, x.step(0, 2, 3));
        check.due("step(0, 1, 9)", 9, x.step(0, 1, 9));
        check.due("path(0, 1, 0)", 9, x.path(0, 1, 0));
        check.due("count(6)", 2, x.count(6));
    }

    private static void pathRefused() {
        FleetSlots x = withVersions(3);
        x.step(0, 1, 5);
        int[][] wrong = {{-1, 1}, {0, 3}, {0, 0}, {1, 0}, {0, -1}, {3, 4}};
        for (int[] w : wrong) {
            check.due("path(" + w[0] + ", " + w[1] + ", 0)", Check.BAD, x.path(w[0], w[1], 0));
            check.due("on(" + w[0] + ", " + w[1] + ", 0)", Check.BAD, x.on(w[0], w[1], 0));
        }
        check.due("path(0, 1, -1)", Check.BAD, x.path(0, 1, -1));
        check.due("path(0, 1, 2)", Check.BAD, x.path(0, 1, 2));
        check.due("BAD is ahead of NONE", Check.BAD, x.path(1, 2, 2));
        check.due("no PATH", Check.NONE, x.path(1, 2, 0));
        check.due("no PATH, STEPS", Check.NONE, x.path(0, 2, 1));
        check.due("on no PATH", Check.NONE, x.on(1, 2, 0));
        check.due("on(0, 1, -1)", Check.NONE, x.on(0, 1, -1));
        check.due("on(0, 1, MIN)", Check.NONE, x.on(0, 1, Integer.MIN_VALUE));
        check.due("on(0, 1, 0)", 0, x.on(0, 1, 0));
        check.due("on(0, 1, 1)", 1, x.on(0, 1, 1));
        check.due("on(0, 1, 2)", Check.NONE, x.on(0, 1, 2));
        check.due("on(0, 1, MAX)", Check.NONE, x.on(0, 1, Integer.MAX_VALUE));
    }

    private static void pathOfLeastBytes() {
        FleetSlots x = withVersions(4);
        x.step(0, 3, 100);
        x.step(0, 1, 30);
        x.step(1, 2, 30);
        x.step(2, 3, 39);
        duePath(x, 0, 3, 99, 0, 1, 2, 3);
        x.step(0, 3, 98);
        duePath(x, 0, 3, 98, 0, 3);
    }

    private static void pathOfFewestSteps() {
        FleetSlots x = withVersions(4);
        x.step(0, 1, 10);
        x.step(1, 2, 10);
        x.step(2, 3, 10);
        x.step(0, 2, 20);
        duePath(x, 0, 3, 30, 0, 2, 3);
        x.step(0, 3, 30);
        duePath(x, 0, 3, 30, 0, 3);
        FleetSlots y = withVersions(5);
        y.step(0, 1, 20);
        y.step(1, 4, 10);
        y.step(0, 2, 10);
        y.step(2, 3, 10);
        y.step(3, 4, 10);
        duePath(y, 0, 4, 30, 0, 1, 4);
    }

    /** A search must not be led by what an earlier one left. */
    private static void pathsOneAfterTheOther() {
        FleetSlots x = withVersions(4);
        x.step(0, 1, 1);
        x.step(1, 2, 2);
        x.step(2, 3, 4);
        duePath(x, 0, 3, 7, 0, 1, 2, 3);
        duePath(x, 0, 1, 1, 0, 1);
        duePath(x, 1, 3, 6, 1, 2, 3);
        duePath(x, 0, 2, 3, 0, 1, 2);
        duePath(x, 2, 3, 4, 2, 3);
        duePath(x, 0, 3, 7, 0, 1, 2, 3);
    }

    private static void pathOfLeastVersions() {
        FleetSlots x = withVersions(6);
        x.step(0, 2, 10);
        x.step(2, 3, 10);
        x.step(3, 5, 10);
        x.step(0, 1, 10);
        x.step(1, 4, 10);
        x.step(4, 5, 10);
        duePath(x, 0, 5, 30, 0, 1, 4, 5);
        x.step(1, 3, 10);
        duePath(x, 0, 5, 30, 0, 1, 3, 5);
    }

    private static void duePath(FleetSlots x, int from, int to, int bytes, int... versions) {
        String path = "path from " + from + " to " + to;
        check.due(path + ": bytes", bytes, x.path(from, to, 0));
        check.due(path + ": STEPS", versions.length - 1, x.path(from, to, 1));
        for (int i = 0; i < versions.length; i++) {
            check.due(path + ": on " + i, versions[i], x.on(from, to, i));
        }
        check.due(path + ": on the end", Check.NONE, x.on(from, to, versions.length));
    }

    /** Few different bytes, so that there are many PATHS of equal bytes. */
    private static void pathsAreThoseOfASearchThroughAll() {
        Random random = new Random(7);
        for (int run = 0; run < 200; run++) {
            FleetSlots x = withVersions(10);
            int[][] bytes = new int[10][10];
            int dense = 1 + random.nextInt(10);
            int spread = 1 + random.nextInt(4);
            for (int from = 0; from < 10; from++) {
                for (int to = from + 1; to < 10; to++) {
                    if (random.nextInt(10) < dense) {
                        bytes[from][to] = run % 2 == 0 ? 1 + random.nextInt(spread)
                            : to - from + random.nextInt(spread) / 3;
                        x.step(from, to, bytes[from][to]);
                    }
                }
            }
            for (int k = 0; k < 6; k++) {
                dueBestOfAll(x, bytes, random.nextInt(4), 4 + random.nextInt(6));
            }
        }
    }

    private static void dueBestOfAll(FleetSlots x, int[][] bytes, int from, int to) {
        int[] best = bestOfAll(bytes, from, to);
        if (best == null) {
            check.due("no path from " + from + " to " + to, Check.NONE, x.path(from, to, 0));
        } else {
            duePath(x, from, to, bytesOf(bytes, best), best);
        }
    }

    /** Every set of VERSIONS between from and to, as the PATH through it. */
    private static int[] bestOfAll(int[][] bytes, int from, int to) {
        int[] best = null;
        int between = to - from - 1;
        for (int set = 0; set < 1 << between; set++) {
            int[] path = new int[Integer.bitCount(set) + 2];
            path[0] = from;
            path[path.length - 1] = to;
            int many = 1;
            for (int k = 0; k < between; k++) {
                if ((set >> k & 1) != 0) {
                    path[many] = from + 1 + k;
                    many++;
                }
            }
            if (bytesOf(bytes, path) >= 0 && (best == null || isBetter(bytes, path, best))) {
                best = path;
            }
        }
        return best;
    }

    private static int bytesOf(int[][] bytes, int[] path) {
        int sum = 0;
        for (int k = 1; k < path.length; k++) {
            int step = bytes[path[k - 1]][path[k]];
            if (step == 0) {
                return -1;
            }
            sum += step;
        }
        return sum;
    }

    private static boolean isBetter(int[][] bytes, int[] path, int[] best) {
        int difference = bytesOf(bytes, path) - bytesOf(bytes, best);
        if (difference == 0) {
            difference = path.length - best.length;
        }
        for (int k = 0; difference == 0 && k < path.length; k++) {
            difference = path[k] - best[k];
        }
        return difference < 0;
    }
}
