import java.lang.reflect.InvocationTargetException;
import java.lang.reflect.Method;
import java.util.ArrayList;
import java.util.Comparator;
import java.util.List;

/** Runs the tests of a class, compares answers with those that are due, and ends with exit code 1 if one was not. */
final class Check {
    static final int NONE = -1000000, BAD = -1000001, STATE = -1000002, FULL = -1000003;
    static final int NULL = -1000011, PLACE = -1000012, KIND = -1000013, SIZE = -1000014, STORE = -1000015;
    static final int MAX = Integer.MAX_VALUE, MIN = Integer.MIN_VALUE;

    private final Class<?> tests;
    private String test = "main";
    private int answers;
    private int wrong;

    Check(Class<?> tests) {
        this.tests = tests;
    }

    /** The methods that bear @Says, by their names. */
    static List<Method> testsOf(Class<?> tests) {
        List<Method> found = new ArrayList<>();
        for (Method m : tests.getDeclaredMethods()) {
            if (m.isAnnotationPresent(Says.class)) {
                found.add(m);
            }
        }
        found.sort(Comparator.comparing(Method::getName));
        return found;
    }

    /** Each test by itself, so that one that fails, or throws, doesn't hide the others. */
    void runAll() throws IllegalAccessException {
        List<Method> found = testsOf(tests);
        for (Method m : found) {
            test = m.getName();
            int ahead = answers;
            try {
                m.invoke(null);
            } catch (InvocationTargetException e) {
                say("threw " + e.getCause());
            }
            if (answers == ahead) {
                say("looked at no answer");
            }
        }
        test = "main";
        if (found.isEmpty()) {
            say("there is no test");
        }
        System.out.println(tests.getName() + ": " + found.size() + " tests, " + answers + " answers, " + wrong
            + " wrong");
        endIfWrong();
    }

    private void say(String what) {
        wrong++;
        System.out.println(tests.getName() + "." + test + ": " + what);
    }

    void due(String call, long want, long got) {
        answers++;
        if (want != got) {
            say(call + " answered " + got + ", due is " + want);
        }
    }

    void dueTrue(String what, boolean is) {
        due(what, 1, is ? 1 : 0);
    }

    /** told(device, 0 ..) in order, as many as are given. */
    void dueTold(String when, FleetSlots x, int device, int... wants) {
        for (int what = 0; what < wants.length; what++) {
            due(when + ": told(" + device + ", " + what + ")", wants[what], x.told(device, what));
        }
    }

    /** runs(0 ..) in order, as many as are given. */
    void dueRuns(String when, FleetSlots x, int... wants) {
        for (int what = 0; what < wants.length; what++) {
            due(when + ": runs(" + what + ")", wants[what], x.runs(what));
        }
    }

    /** THE TRACE, with nothing behind what is given. */
    void dueTrace(String when, FleetSlots x, int... wants) {
        for (int i = 0; i < wants.length; i++) {
            due(when + ": trace(" + i + ")", wants[i], x.trace(i));
        }
        due(when + ": trace(" + wants.length + ")", NONE, x.trace(wants.length));
    }

    /** For a test program whose checks have no names of their own. */
    void end() {
        System.out.println(tests.getName() + ": " + answers + " answers, " + wrong + " wrong");
        endIfWrong();
    }

    private void endIfWrong() {
        if (wrong != 0) {
            System.exit(1);
        }
    }
}
