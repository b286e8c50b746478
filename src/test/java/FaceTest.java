import java.lang.reflect.Constructor;
import java.lang.reflect.Field;
import java.lang.reflect.Method;
import java.lang.reflect.Modifier;
import java.util.ArrayList;
import java.util.Arrays;
import java.util.Collections;
import java.util.List;

/** The public face, and the rules of LANGUAGE.md that can be seen of the compiled classes. */
public final class FaceTest {
    private static final Check check = new Check(FaceTest.class);
    private static final String[] METHODS = {"int sheet 3", "int set 3", "int copy 5", "int drop 1", "int version 3",
        "int step 3", "int path 3", "int on 3", "int device 3", "int told 2", "int update 2", "int acts 2",
        "int power 3", "int cut 4", "int seed 1", "int campaign 5", "int tick 1", "int runs 1", "long chance 3",
        "int kind 1", "int as 2", "int ask 2", "int trace 1", "int count 1", "int status 0"};

    public static void main(String[] args) {
        constants();
        dueFace();
        for (Class<?> inside : FleetSlots.class.getDeclaredClasses()) {
            dueInside(inside);
        }
        check.dueTrue("some twelve classes at most", FleetSlots.class.getDeclaredClasses().length <= 13);
        check.end();
    }

    private static void constants() {
        check.due("NONE", -1000000, FleetSlots.NONE);
        check.due("BAD", -1000001, FleetSlots.BAD);
        check.due("STATE", -1000002, FleetSlots.STATE);
        check.due("FULL", -1000003, FleetSlots.FULL);
    }

    private static void dueFace() {
        Class<?> face = FleetSlots.class;
        check.dueTrue("public final", Modifier.isPublic(face.getModifiers()) && Modifier.isFinal(face.getModifiers()));
        List<String> methods = new ArrayList<>();
        for (Method m : face.getDeclaredMethods()) {
            if (m.isSynthetic()) {
                continue;
            }
            if (Modifier.isPublic(m.getModifiers())) {
                check.dueTrue(m + " takes ints", allInts(m.getParameterTypes()));
                methods.add(m.getReturnType() + " " + m.getName() + " " + m.getParameterCount());
            } else {
                check.dueTrue(m + " is private", Modifier.isPrivate(m.getModifiers()));
                dueOwnName(m);
            }
        }
        List<String> due = new ArrayList<>(Arrays.asList(METHODS));
        Collections.sort(due);
        Collections.sort(methods);
        check.dueTrue("the methods of the face, not " + methods, due.equals(methods));
        List<String> fields = new ArrayList<>();
        for (Field f : face.getDeclaredFields()) {
            if (Modifier.isPublic(f.getModifiers())) {
                fields.add(f.getName());
            } else {
                check.dueTrue(f + " is private", Modifier.isPrivate(f.getModifiers()));
            }
            check.dueTrue(f + ", if static, is final", !Modifier.isStatic(f.getModifiers()) || Modifier.isFinal(f.getModifiers()));
        }
        check.dueTrue("the constants of the face", fields.equals(Arrays.asList("NONE", "BAD", "STATE", "FULL")));
        for (Constructor<?> c : face.getDeclaredConstructors()) {
            check.dueTrue("one public constructor", Modifier.isPublic(c.getModifiers()) && c.getParameterCount() == 0);
        }
    }

    private static void dueInside(Class<?> inside) {
        check.dueTrue(inside + " is static", Modifier.isStatic(inside.getModifiers()));
        check.dueTrue(inside + " is not public", !Modifier.isPublic(inside.getModifiers())
            && !Modifier.isProtected(inside.getModifiers()));
        for (Method m : inside.getDeclaredMethods()) {
            dueOwnName(m);
        }
        for (Field f : inside.getDeclaredFields()) {
            check.dueTrue(f + ", if static, is final", !Modifier.isStatic(f.getModifiers()) || Modifier.isFinal(f.getModifiers()));
        }
    }

    private static boolean allInts(Class<?>[] types) {
        for (Class<?> type : types) {
            if (type != int.class) {
                return false;
            }
        }
        return true;
    }

    private static void dueOwnName(Method m) {
        for (String row : METHODS) {
            boolean same = row.split(" ")[1].equals(m.getName());
            check.dueTrue(m + " has a name of its own", !same || !Modifier.isPrivate(m.getModifiers()));
        }
        check.dueTrue(m + " takes at most seven", m.getParameterCount() <= 7);
    }
}
