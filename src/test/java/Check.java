/** Compares answers with those that are due, and ends a test program with exit code 1 if one was not. */
final class Check {
    static final int NONE = -1000000, BAD = -1000001, STATE = -1000002, FULL = -1000003;
    static final int NULL = -1000011, PLACE = -1000012, KIND = -1000013, SIZE = -1000014, STORE = -1000015;

    private final String name;
    private int answers;
    private int wrong;

    Check(String name) {
        this.name = name;
    }

    void due(String call, long want, long got) {
        answers++;
        if (want != got) {
            wrong++;
            System.out.println(name + ": " + call + " answered " + got + ", due is " + want);
        }
    }

    /** told(device, 0 ..) in order, as many as are given. */
    void dueTold(String when, FleetSlots x, int device, int... wants) {
        for (int what = 0; what < wants.length; what++) {
            due(when + ": told(" + device + ", " + what + ")", wants[what], x.told(device, what));
        }
    }

    /** runs(0 ..) in order, as many as are given. */
    void dueRuns(String when, FleetSlots x, int... wants) {
        for (int what = 0; what < wants.length; what++) {
            due(when + ": runs(" + what + ")", wants[what], x.runs(what));
        }
    }

    /** THE TRACE, with nothing behind what is given. */
    void dueTrace(String when, FleetSlots x, int... wants) {
        for (int i = 0; i < wants.length; i++) {
            due(when + ": trace(" + i + ")", wants[i], x.trace(i));
        }
        due(when + ": trace(" + wants.length + ")", NONE, x.trace(wants.length));
    }

    void end() {
        System.out.println(name + ": " + answers + " answers, " + wrong + " wrong");
        if (wrong != 0) {
            System.exit(1);
        }
    }
}
