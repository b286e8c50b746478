import java.util.Random;

/** Random calls, with numbers that are mostly small, at times at an edge, and seldom far beyond. */
final class Calls {
    static final int METHODS = 25, STATUS = 24;
    private static final int[] FAR = {Integer.MIN_VALUE, Integer.MAX_VALUE, FleetSlots.NONE, FleetSlots.BAD,
        Integer.MIN_VALUE + 1, Integer.MAX_VALUE - 1, 65536, -32769, 100000, 100001};
    /** For each method the number behind the greatest that each argument is meant to have. */
    private static final int[][] BOUNDS = {{8, 3, 61}, {8, 60, 300}, {8, 60, 8, 60, 60}, {8}, {9, 10, 256},
        {10, 10, 1001}, {10, 10, 2}, {10, 10, 6}, {8, 10, 30}, {30, 9}, {30, 10}, {30, 10}, {30, 10, 15},
        {30, 10, 15, 4}, {70000}, {10, 8, 60, 7, 11}, {4000}, {6}, {13, 11, 11}, {30}, {30, 4}, {30, 2}, {16}, {7}, {}};

    private Calls() {
    }

    static int[] next(Random random) {
        int method = random.nextInt(METHODS);
        int[] call = new int[6];
        call[0] = method;
        boolean narrow = random.nextInt(3) > 0;
        for (int k = 0; k < BOUNDS[method].length; k++) {
            call[1 + k] = number(random, BOUNDS[method][k], narrow);
        }
        if (method == 8 && random.nextBoolean()) {
            call[3] = FleetSlots.NONE;
        }
        return call;
    }

    private static int number(Random random, int bound, boolean narrow) {
        int sort = random.nextInt(40);
        if (sort == 0) {
            return FAR[random.nextInt(FAR.length)];
        }
        if (sort == 1) {
            return bound + random.nextInt(3) - 1;
        }
        if (sort == 2) {
            return random.nextInt(3) - 2;
        }
        return random.nextInt(narrow ? Math.min(bound, 6) : bound);
    }

    static long answer(FleetSlots x, int[] c) {
        switch (c[0]) {
            case 0: return x.sheet(c[1], c[2], c[3]);
            case 1: return x.set(c[1], c[2], c[3]);
            case 2: return x.copy(c[1], c[2], c[3], c[4], c[5]);
            case 3: return x.drop(c[1]);
            case 4: return x.version(c[1], c[2], c[3]);
            case 5: return x.step(c[1], c[2], c[3]);
            case 6: return x.path(c[1], c[2], c[3]);
            case 7: return x.on(c[1], c[2], c[3]);
            case 8: return x.device(c[1], c[2], c[3]);
            case 9: return x.told(c[1], c[2]);
            case 10: return x.update(c[1], c[2]);
            case 11: return x.acts(c[1], c[2]);
            case 12: return x.power(c[1], c[2], c[3]);
            case 13: return x.cut(c[1], c[2], c[3], c[4]);
            case 14: return x.seed(c[1]);
            case 15: return x.campaign(c[1], c[2], c[3], c[4], c[5]);
            case 16: return x.tick(c[1]);
            case 17: return x.runs(c[1]);
            case 18: return x.chance(c[1], c[2], c[3]);
            case 19: return x.kind(c[1]);
            case 20: return x.as(c[1], c[2]);
            case 21: return x.ask(c[1], c[2]);
            case 22: return x.trace(c[1]);
            case 23: return x.count(c[1]);
            default: return x.status();
        }
    }

    /** Whether the call was refused or found, by its number: a set ITEM could look like a refusal. */
    static boolean isRefusal(int[] call, long answer) {
        return call[0] != 1 ? answer <= Check.BAD && answer >= Check.STORE
            : answer == Check.BAD || answer == Check.NULL || answer == Check.PLACE;
    }
}
