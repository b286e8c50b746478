/**
 * A fleet of small devices that get new programs block by block into the slot that is not on.
 * The words in capitals are those of the document; every call answers an int (or long), refusals too.
 */
public final class FleetSlots {
    public static final int NONE = -1000000, BAD = -1000001, STATE = -1000002, FULL = -1000003;

    private static final int FINDINGS = -1000010;
    private static final int NO_FINDING = 0, NULL = 1, PLACE = 2, KIND = 3, SIZE = 4, STORE = 5;

    private static final int MOST_SHEETS = 8, MOST_ITEMS = 60;
    private static final int BYTES = 0, SHORTS = 1, INTS = 2;

    private static final int MOST_VERSIONS = 10, MOST_BLOCKS = 8, MOST_SORTS = 8, MOST_BYTES = 1000;
    private static final int UNREACHED = -1;

    private static final int MOST_DEVICES = 30, MOST_TRIES = 3, MOST_ACTS = 14, STARTS_BEHIND_A_CUT = 4;
    private static final int DEVICE = 0, FRESH = 1, SETTLED = 2, STUCK = 3, FAILS_OF_STUCK = 2;

    private static final int MOST_WAVES = 6, HUNDRED = 100, TEN = 10, MOST_BUDGET = 100000, MOST_TESTED = 12;
    private static final int RUNS = 0, HALTED = 1, OVER = 2;
    private static final long DRAW_FACTOR = 2654435761L;

    private static final int WORTH = 0, MOST_TRACED = 16;

    private final Sheet[] sheets = new Sheet[MOST_SHEETS];
    private final Version[] versions = new Version[MOST_VERSIONS];
    private int versionCount;
    private final Steps steps = new Steps();
    private final Device[] devices = new Device[MOST_DEVICES];
    private int deviceCount;
    private final Device standIn = new Device(0);
    private final Campaign current = new Campaign();
    private int seedBits;
    private final Asks asks = new Asks();
    private int latestFinding = NO_FINDING;

    public FleetSlots() {
        for (int i = 0; i < MOST_SHEETS; i++) {
            sheets[i] = new Sheet();
        }
        for (int i = 0; i < MOST_VERSIONS; i++) {
            versions[i] = new Version(i);
        }
        for (int i = 0; i < MOST_DEVICES; i++) {
            devices[i] = new Device(i);
        }
    }

    // ---- sheets

    public int sheet(int sheet, int lane, int n) {
        if (!isSheet(sheet) || lane < BYTES || lane > INTS || n > MOST_ITEMS) {
            return BAD;
        }
        if (n < 0) {
            return found(SIZE);
        }
        sheets[sheet].lay(lane, n);
        return passed(n);
    }

    public int set(int sheet, int i, int v) {
        if (!isSheet(sheet)) {
            return BAD;
        }
        Sheet s = sheets[sheet];
        if (s.missing) {
            return found(NULL);
        }
        if (!s.hasPlaces(i, 1)) {
            return found(PLACE);
        }
        return passed(s.put(i, v));
    }

    public int copy(int a, int i, int b, int j, int n) {
        if (!isSheet(a) || !isSheet(b)) {
            return BAD;
        }
        Sheet source = sheets[a];
        Sheet target = sheets[b];
        if (source.missing || target.missing) {
            return found(NULL);
        }
        if (source.lane != target.lane) {
            return found(STORE);
        }
        if (!source.hasPlaces(i, n) || !target.hasPlaces(j, n)) {
            return found(PLACE);
        }
        System.arraycopy(source.items, i, target.items, j, n);
        return passed(n);
    }

    public int drop(int sheet) {
        if (!isSheet(sheet)) {
            return BAD;
        }
        Sheet s = sheets[sheet];
        if (s.missing) {
            return found(NULL);
        }
        s.missing = true;
        return passed(s.size);
    }

    // ---- versions

    public int version(int blocks, int floor, int ails) {
        if (blocks < 1 || blocks > MOST_BLOCKS || ails < 0 || ails >= 1 << MOST_SORTS) {
            return BAD;
        }
        if (floor < leastFloor() || floor > versionCount) {
            return BAD;
        }
        if (versionCount >= MOST_VERSIONS) {
            return FULL;
        }
        versions[versionCount].fill(blocks, floor, ails);
        versionCount++;
        return versionCount - 1;
    }

    public int step(int from, int to, int bytes) {
        if (!isRise(from, to) || bytes < 1 || bytes > MOST_BYTES) {
            return BAD;
        }
        return steps.exchange(from, to, bytes);
    }

    public int path(int from, int to, int what) {
        if (!isRise(from, to) || what < 0 || what > 1) {
            return BAD;
        }
        if (!steps.search(from, to)) {
            return NONE;
        }
        return what == 0 ? steps.leastBytes[from] : steps.fewest[from];
    }

    public int on(int from, int to, int i) {
        if (!isRise(from, to)) {
            return BAD;
        }
        if (!steps.search(from, to)) {
            return NONE;
        }
        return steps.follow(from, i);
    }

    // ---- devices

    public int device(int sort, int version, int hub) {
        if (sort < 0 || sort >= MOST_SORTS || !isVersion(version) || !(hub == NONE || isDevice(hub))) {
            return BAD;
        }
        if (versions[version].ailsOn(sort)) {
            return STATE;
        }
        if (deviceCount >= MOST_DEVICES) {
            return FULL;
        }
        devices[deviceCount].arrive(sort, versions[version], hub == NONE ? null : devices[hub]);
        deviceCount++;
        return deviceCount - 1;
    }

    public int told(int device, int what) {
        if (!isDevice(device)) {
            return BAD;
        }
        Device d = devices[device];
        switch (what) {
            case 0: return d.active.versionNumber();
            case 1: return d.activeSlot;
            case 2: return d.spare.versionNumber();
            case 3: return d.spare.blocks;
            case 4: return d.triesLeft;
            case 5: return d.fuse;
            case 6: return d.fails;
            case 7: return drawOf(d);
            case 8: return d.isAlive() ? 1 : 0;
            default: return BAD;
        }
    }

    public int update(int device, int version) {
        if (!isDevice(device) || !isVersion(version)) {
            return BAD;
        }
        if (!isAbove(version, devices[device])) {
            return STATE;
        }
        return updateWhole(devices[device], versions[version]) ? 1 : 0;
    }

    public int acts(int device, int version) {
        if (!isDevice(device) || !isVersion(version)) {
            return BAD;
        }
        if (!isAbove(version, devices[device])) {
            return STATE;
        }
        standIn.become(devices[device]);
        return standIn.install(versions[version], MOST_ACTS);
    }

    public int power(int device, int version, int acts) {
        int refusal = cutStandIn(device, version, acts);
        if (refusal != 0) {
            return refusal;
        }
        Device d = devices[device];
        d.become(standIn);
        return noteEnd(d, versions[version]) ? 1 : 0;
    }

    public int cut(int device, int version, int acts, int what) {
        if (what < 0 || what > 3) {
            return BAD;
        }
        int refusal = cutStandIn(device, version, acts);
        if (refusal != 0) {
            return refusal;
        }
        switch (what) {
            case 0: return standIn.isAlive() ? 1 : 0;
            case 1: return standIn.active.versionNumber();
            case 2: return standIn.spare.blocks;
            default: return standIn.fuse;
        }
    }

    // ---- campaigns

    public int seed(int z) {
        seedBits = z;
        return 1;
    }

    public int campaign(int version, int sheet, int i, int n, int gate) {
        if (!isVersion(version) || !isSheet(sheet) || n < 1 || n > MOST_WAVES || gate < 0 || gate > TEN) {
            return BAD;
        }
        Sheet s = sheets[sheet];
        if (s.missing) {
            return found(NULL);
        }
        if (!s.hasPlaces(i, n)) {
            return found(PLACE);
        }
        if (!s.holdsRisingShares(i, n)) {
            return BAD;
        }
        current.begin(versions[version], s, i, n, gate);
        return passed(membersOfWave());
    }

    public int tick(int budget) {
        if (budget < 0 || budget > MOST_BUDGET) {
            return BAD;
        }
        if (!current.isRunning()) {
            return STATE;
        }
        int left = budget;
        int asked = 0;
        for (int i = 0; i < deviceCount; i++) {
            Device d = devices[i];
            if (!isDue(d)) {
                continue;
            }
            int bytes = bytesTo(d, current.target);
            if (bytes > left) {
                return asked;
            }
            left -= bytes;
            current.note(i, bytes, updateWhole(d, current.target));
            asked++;
        }
        if (asked == 0) {
            current.endWave();
        }
        return asked;
    }

    public int runs(int what) {
        if (what < 0 || what > 5) {
            return BAD;
        }
        if (current.target == null) {
            return STATE;
        }
        switch (what) {
            case 0: return current.wave;
            case 1: return current.asked;
            case 2: return current.failed;
            case 3: return current.state;
            case 4: return current.bytesSent;
            default: return devicesAtLeastAt(current.target);
        }
    }

    public long chance(int m, int t, int gate) {
        if (m < 1 || m > MOST_TESTED || t < 0 || t > TEN || gate < 0 || gate > TEN) {
            return BAD;
        }
        long cases = 0;
        for (int h = 0; h <= m; h++) {
            if (!isHalting(h, m, gate)) {
                cases += choices(m, h) * raised(t, h) * raised(TEN - t, m - h);
            }
        }
        return cases;
    }

    // ---- asked

    public int kind(int device) {
        if (!isDevice(device)) {
            return BAD;
        }
        return kindOf(devices[device]);
    }

    public int as(int device, int kind) {
        if (!isDevice(device) || kind < DEVICE || kind > STUCK) {
            return BAD;
        }
        Device d = devices[device];
        if (!isOfKind(d, kind)) {
            return found(KIND);
        }
        return passed(d.sort);
    }

    public int ask(int device, int what) {
        if (!isDevice(device) || what < 0 || what > 1) {
            return BAD;
        }
        Device d = devices[device];
        int kind = kindOf(d);
        asks.forget();
        return what == WORTH ? asks.worthOf(d, kind) : asks.markOf(d, kind);
    }

    public int trace(int i) {
        return asks.tracedAt(i);
    }

    public int count(int what) {
        switch (what) {
            case 0: return sheetsThere();
            case 1: return versionCount;
            case 2: return deviceCount;
            case 3: return devicesAlive();
            case 4: return devicesTold(FRESH) + devicesTold(SETTLED);
            case 5: return devicesTold(STUCK);
            case 6: return steps.known;
            default: return BAD;
        }
    }

    public int status() {
        return latestFinding;
    }

    // ---- what a number stands for, and what is kept for status()

    private static boolean isSheet(int sheet) {
        return sheet >= 0 && sheet < MOST_SHEETS;
    }

    private boolean isVersion(int version) {
        return version >= 0 && version < versionCount;
    }

    private boolean isRise(int from, int to) {
        return isVersion(from) && isVersion(to) && from < to;
    }

    private boolean isDevice(int device) {
        return device >= 0 && device < deviceCount;
    }

    private static boolean isAbove(int version, Device d) {
        return version > d.active.versionNumber();
    }

    private int leastFloor() {
        return versionCount == 0 ? 0 : versions[versionCount - 1].floor;
    }

    private int found(int finding) {
        latestFinding = finding;
        return FINDINGS - finding;
    }

    private int passed(int answer) {
        latestFinding = NO_FINDING;
        return answer;
    }

    // ---- updates, with and without a CUT

    private boolean updateWhole(Device d, Version to) {
        d.install(to, MOST_ACTS);
        return noteEnd(d, to);
    }

    private boolean noteEnd(Device d, Version to) {
        boolean taken = d.active.versionNumber() == to.number;
        if (!taken) {
            d.fails++;
            d.failsSinceFresh++;
        } else if (isFresh(d)) {
            d.failsSinceFresh = 0;
        }
        return taken;
    }

    /** 0, or the refusal; works on the stand-in, so that a refused call has touched no DEVICE. */
    private int cutStandIn(int device, int version, int acts) {
        if (!isDevice(device) || !isVersion(version) || acts < 0 || acts > MOST_ACTS) {
            return BAD;
        }
        if (!isAbove(version, devices[device])) {
            return STATE;
        }
        standIn.become(devices[device]);
        if (standIn.install(versions[version], acts) < acts) {
            return BAD;
        }
        for (int k = 0; k < STARTS_BEHIND_A_CUT; k++) {
            standIn.start();
        }
        return 0;
    }

    // ---- campaigns and gates

    private int drawOf(Device d) {
        long mixed = (d.number + 1) * DRAW_FACTOR + seedBits;
        return (int) ((mixed >>> 16) & 0xFFFF) % HUNDRED;
    }

    private boolean isMember(Device d) {
        return drawOf(d) < current.shareOfWave();
    }

    private int membersOfWave() {
        int members = 0;
        for (int i = 0; i < deviceCount; i++) {
            if (isMember(devices[i])) {
                members++;
            }
        }
        return members;
    }

    private boolean isDue(Device d) {
        if (d.isAtLeastAt(current.target) || current.wasAsked[d.number] || !isMember(d)) {
            return false;
        }
        return d.hub == null || d.hub.isAtLeastAt(current.target);
    }

    private int bytesTo(Device d, Version to) {
        int from = d.active.versionNumber();
        if (isRise(from, to.number) && steps.search(from, to.number)) {
            return steps.leastBytes[from];
        }
        return to.blocks * HUNDRED;
    }

    private int devicesAtLeastAt(Version v) {
        int reached = 0;
        for (int i = 0; i < deviceCount; i++) {
            if (devices[i].isAtLeastAt(v)) {
                reached++;
            }
        }
        return reached;
    }

    private static boolean isHalting(int failed, int asked, int gate) {
        return failed * TEN > gate * asked;
    }

    private static long choices(int m, int h) {
        long ways = 1;
        for (int k = 1; k <= h; k++) {
            ways = ways * (m - h + k) / k;
        }
        return ways;
    }

    private static long raised(int base, int times) {
        long power = 1;
        for (int k = 0; k < times; k++) {
            power *= base;
        }
        return power;
    }

    // ---- kinds and counts

    private boolean isFresh(Device d) {
        return d.active.versionNumber() == versionCount - 1;
    }

    private int kindOf(Device d) {
        if (isFresh(d)) {
            return d.fails == 0 ? SETTLED : FRESH;
        }
        return d.failsSinceFresh >= FAILS_OF_STUCK ? STUCK : DEVICE;
    }

    private boolean isOfKind(Device d, int kind) {
        int told = kindOf(d);
        return kind == DEVICE || kind == told || (kind == FRESH && told == SETTLED);
    }

    private int sheetsThere() {
        int there = 0;
        for (int i = 0; i < MOST_SHEETS; i++) {
            if (!sheets[i].missing) {
                there++;
            }
        }
        return there;
    }

    private int devicesAlive() {
        int alive = 0;
        for (int i = 0; i < deviceCount; i++) {
            if (devices[i].isAlive()) {
                alive++;
            }
        }
        return alive;
    }

    private int devicesTold(int kind) {
        int told = 0;
        for (int i = 0; i < deviceCount; i++) {
            if (kindOf(devices[i]) == kind) {
                told++;
            }
        }
        return told;
    }

    /** Its row has the most ITEMS from the start, so that no call has to make a new one. */
    private static final class Sheet {
        final int[] items = new int[MOST_ITEMS];
        boolean missing = true;
        int lane;
        int size;

        void lay(int newLane, int n) {
            for (int i = 0; i < MOST_ITEMS; i++) {
                items[i] = 0;
            }
            missing = false;
            lane = newLane;
            size = n;
        }

        /** Takes n from the size, since i and n could wrap around when added. */
        boolean hasPlaces(int i, int n) {
            return i >= 0 && n >= 0 && i <= size - n;
        }

        int put(int i, int v) {
            items[i] = lane == BYTES ? (byte) v : lane == SHORTS ? (short) v : v;
            return items[i];
        }

        boolean holdsRisingShares(int i, int n) {
            int ahead = 0;
            for (int k = i; k < i + n; k++) {
                if (items[k] <= ahead || items[k] > HUNDRED) {
                    return false;
                }
                ahead = items[k];
            }
            return true;
        }
    }

    private static final class Version {
        final int number;
        int blocks;
        int floor;
        private int ails;

        Version(int number) {
            this.number = number;
        }

        void fill(int newBlocks, int newFloor, int newAils) {
            blocks = newBlocks;
            floor = newFloor;
            ails = newAils;
        }

        boolean ailsOn(int sort) {
            return (ails >> sort & 1) != 0;
        }
    }

    /** The STEPS between VERSIONS, and what the latest search for a PATH found. */
    private static final class Steps {
        private final int[][] bytes = new int[MOST_VERSIONS][MOST_VERSIONS];
        final int[] leastBytes = new int[MOST_VERSIONS];
        final int[] fewest = new int[MOST_VERSIONS];
        private final int[] next = new int[MOST_VERSIONS];
        int known;

        int exchange(int from, int to, int newBytes) {
            int old = bytes[from][to];
            if (old == 0) {
                known++;
            }
            bytes[from][to] = newBytes;
            return old;
        }

        /** Goes from the far end, as what is left of a best PATH is a best PATH too. */
        boolean search(int from, int to) {
            leastBytes[to] = 0;
            fewest[to] = 0;
            for (int v = to - 1; v >= from; v--) {
                chooseNext(v, to);
            }
            return leastBytes[from] != UNREACHED;
        }

        /** Only a better one displaces what is chosen, so of equal ones the least VERSION stays. */
        private void chooseNext(int v, int to) {
            leastBytes[v] = UNREACHED;
            for (int w = v + 1; w <= to; w++) {
                if (bytes[v][w] == 0 || leastBytes[w] == UNREACHED) {
                    continue;
                }
                int sum = bytes[v][w] + leastBytes[w];
                int many = 1 + fewest[w];
                if (leastBytes[v] == UNREACHED || sum < leastBytes[v] || (sum == leastBytes[v] && many < fewest[v])) {
                    leastBytes[v] = sum;
                    fewest[v] = many;
                    next[v] = w;
                }
            }
        }

        /** VERSION i on the PATH that the latest search found. */
        int follow(int from, int i) {
            if (i < 0 || i > fewest[from]) {
                return NONE;
            }
            int at = from;
            for (int k = 0; k < i; k++) {
                at = next[at];
            }
            return at;
        }
    }

    private static final class Slot {
        Version program;
        int blocks;

        void fill(Version newProgram, int newBlocks) {
            program = newProgram;
            blocks = newBlocks;
        }

        int versionNumber() {
            return program == null ? NONE : program.number;
        }

        boolean isWholeNotBelow(int fuse) {
            return program != null && blocks == program.blocks && program.number >= fuse;
        }
    }

    private static final class Device {
        final int number;
        int sort;
        Device hub;
        Slot active = new Slot();
        Slot spare = new Slot();
        int activeSlot;
        private boolean spareIsToBeTried;
        int triesLeft;
        int fuse;
        int fails;
        int failsSinceFresh;

        Device(int number) {
            this.number = number;
        }

        void arrive(int newSort, Version v, Device newHub) {
            sort = newSort;
            hub = newHub;
            active.fill(v, v.blocks);
            fuse = v.floor;
        }

        /** All that the ACTS of an UPDATE read or change; who made them keeps count of fails. */
        void become(Device other) {
            sort = other.sort;
            active.fill(other.active.program, other.active.blocks);
            spare.fill(other.spare.program, other.spare.blocks);
            activeSlot = other.activeSlot;
            spareIsToBeTried = other.spareIsToBeTried;
            triesLeft = other.triesLeft;
            fuse = other.fuse;
        }

        boolean isAtLeastAt(Version v) {
            return active.versionNumber() >= v.number;
        }

        boolean isAlive() {
            return active.isWholeNotBelow(fuse);
        }

        /** An UPDATE until it is over, or until `most` ACTS are behind it: how many there were. */
        int install(Version v, int most) {
            int acts = 0;
            while (acts < most && !isOver(v, acts)) {
                doAct(v, acts);
                acts++;
            }
            return acts;
        }

        private boolean isOver(Version v, int acts) {
            return acts > v.blocks + 2 && !spareIsToBeTried;
        }

        private void doAct(Version v, int act) {
            if (act == 0) {
                spare.fill(null, 0);
            } else if (act <= v.blocks) {
                spare.fill(v, act);
            } else if (act == v.blocks + 1) {
                spareIsToBeTried = true;
                triesLeft = MOST_TRIES;
            } else {
                start();
            }
        }

        void start() {
            if (!spareIsToBeTried) {
                return;
            }
            Version v = spare.program;
            if (v == null || triesLeft == 0 || !spare.isWholeNotBelow(fuse)) {
                endTrial();
                return;
            }
            triesLeft--;
            if (!v.ailsOn(sort)) {
                take(v);
            }
        }

        private void take(Version v) {
            Slot left = active;
            active = spare;
            spare = left;
            activeSlot = 1 - activeSlot;
            fuse = Math.max(fuse, v.floor);
            endTrial();
        }

        private void endTrial() {
            spareIsToBeTried = false;
            triesLeft = 0;
        }
    }

    private static final class Campaign {
        Version target;
        private final int[] shares = new int[MOST_WAVES];
        private int waves;
        private int gate;
        final boolean[] wasAsked = new boolean[MOST_DEVICES];
        int wave;
        int asked;
        int failed;
        int state;
        int bytesSent;

        void begin(Version newTarget, Sheet s, int i, int n, int newGate) {
            target = newTarget;
            System.arraycopy(s.items, i, shares, 0, n);
            waves = n;
            gate = newGate;
            state = RUNS;
            bytesSent = 0;
            beginWave(0);
        }

        private void beginWave(int newWave) {
            wave = newWave;
            asked = 0;
            failed = 0;
            for (int d = 0; d < MOST_DEVICES; d++) {
                wasAsked[d] = false;
            }
        }

        boolean isRunning() {
            return target != null && state == RUNS;
        }

        int shareOfWave() {
            return shares[wave];
        }

        void note(int device, int bytes, boolean taken) {
            wasAsked[device] = true;
            bytesSent += bytes;
            asked++;
            if (!taken) {
                failed++;
            }
        }

        void endWave() {
            if (isHalting(failed, asked, gate)) {
                state = HALTED;
            } else if (wave == waves - 1) {
                state = OVER;
            } else {
                beginWave(wave + 1);
            }
        }
    }

    /** A BODY lent on is called by its own name, so that it leaves its number in THE TRACE as well. */
    private static final class Asks {
        private final int[] traced = new int[MOST_TRACED];
        private int tracedCount;

        void forget() {
            tracedCount = 0;
        }

        int tracedAt(int i) {
            return i >= 0 && i < tracedCount ? traced[i] : NONE;
        }

        private void leave(int body) {
            if (tracedCount < MOST_TRACED) {
                traced[tracedCount] = body;
                tracedCount++;
            }
        }

        int worthOf(Device d, int kind) {
            switch (kind) {
                case FRESH: return worthOfFresh(d);
                case SETTLED: return worthOfSettled(d);
                case STUCK: return worthOfStuck(d);
                default: return worthOfAny(d);
            }
        }

        private int worthOfAny(Device d) {
            leave(10);
            return d.active.versionNumber();
        }

        private int worthOfFresh(Device d) {
            leave(11);
            return worthOfAny(d) + 100;
        }

        private int worthOfSettled(Device d) {
            leave(12);
            return 2 * worthOfFresh(d);
        }

        private int worthOfStuck(Device d) {
            leave(13);
            return worthOfAny(d) - d.fails;
        }

        int markOf(Device d, int kind) {
            switch (kind) {
                case FRESH:
                case SETTLED: return markOfFresh(d, kind);
                case STUCK: return markOfStuck(d);
                default: return markOfAny(d);
            }
        }

        private int markOfAny(Device d) {
            leave(20);
            return d.sort;
        }

        private int markOfFresh(Device d, int kind) {
            leave(21);
            return markOfAny(d) + worthOf(d, kind);
        }

        private int markOfStuck(Device d) {
            leave(22);
            return markOfAny(d) + d.fuse;
        }
    }
}
