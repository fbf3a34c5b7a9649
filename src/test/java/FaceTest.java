import java.lang.reflect.Constructor;
import java.lang.reflect.Field;
import java.lang.reflect.Method;
import java.lang.reflect.Modifier;
import java.util.ArrayList;
import java.util.Arrays;
import java.util.List;
import java.util.TreeSet;

/** The public face, and arguments at the edges of int. */
public final class FaceTest {
    private static final String[] FACE = {"about/2", "anew/3", "copy/3", "count/1", "crosses/2", "crossings/1", "enter/3", "fewest/1", "hub/1",
        "isOf/2", "kind/2", "lace/4", "length/1", "limit/2", "loaded/3", "log/2", "next/0", "plan/1", "read/3", "reading/2", "snap/1", "state/1",
        "table/2", "tells/2", "tune/2", "turn/2", "unbent/2", "undo/0", "wheel/1", "why/0", "worstAt/1"};
    private static final int[] EDGES = {Integer.MIN_VALUE, -10000, -1, 0, 1, 5, 8, 31, 60, 1000, Integer.MAX_VALUE};

    public static void main(String[] args) {
        constants();
        face();
        edges();
        Check.end();
    }

    private static void constants() {
        Check.due("BAD", WheelStand.BAD, -1000000001);
        Check.due("NO", WheelStand.NO, -1000000002);
        Check.due("FULL", WheelStand.FULL, -1000000003);
        Check.due("NOTHING", WheelStand.NOTHING, -1000000011);
        Check.due("INDEX", WheelStand.INDEX, -1000000013);
        Check.due("NONE", WheelStand.NONE, -1000000005);
    }

    private static void face() {
        List<String> open = new ArrayList<>();
        TreeSet<String> openNames = new TreeSet<>();
        for (Method method : WheelStand.class.getDeclaredMethods()) {
            if (!Modifier.isPrivate(method.getModifiers())) {
                Check.holds(method + " is public, of the object, and answers int",
                    method.getModifiers() == Modifier.PUBLIC && method.getReturnType() == int.class);
                open.add(method.getName() + "/" + method.getParameterCount());
                openNames.add(method.getName());
            }
        }
        open.sort(null);
        Check.holds("the face is the document's: " + open, open.equals(Arrays.asList(FACE)));
        for (Method method : WheelStand.class.getDeclaredMethods()) {
            Check.holds(method + " has its name alone", !Modifier.isPrivate(method.getModifiers()) || !openNames.contains(method.getName()));
        }
        int constants = 0;
        for (Field field : WheelStand.class.getDeclaredFields()) {
            constants += Modifier.isPrivate(field.getModifiers()) ? 0 : 1;
            Check.holds(field + " is final, if it is static", !Modifier.isStatic(field.getModifiers()) || Modifier.isFinal(field.getModifiers()));
        }
        Check.due("constants that are seen", constants, 6);
        Constructor<?>[] made = WheelStand.class.getDeclaredConstructors();
        Check.due("constructors", made.length, 1);
        Check.holds("the class is public and final", WheelStand.class.getModifiers() == (Modifier.PUBLIC | Modifier.FINAL));
        for (Class<?> inside : WheelStand.class.getDeclaredClasses()) {
            Check.holds(inside + " is static and not public", Modifier.isStatic(inside.getModifiers()) && !Modifier.isPublic(inside.getModifiers()));
        }
    }

    /** No call throws, whatever it is given; what it throws would end the test. */
    private static void edges() {
        for (int holes : new int[] {8, 32}) {
            for (Method method : WheelStand.class.getMethods()) {
                if (method.getDeclaringClass() == WheelStand.class) {
                    all(holes, method.getName(), new int[method.getParameterCount()], 0);
                }
            }
        }
    }

    private static void all(int holes, String name, int[] arguments, int from) {
        if (from < arguments.length) {
            for (int edge : EDGES) {
                arguments[from] = edge;
                all(holes, name, arguments, from + 1);
            }
            return;
        }
        WheelStand x = new WheelStand();
        x.wheel(holes);
        x.table(0, 3);
        x.snap(0);
        int first = Calls.ask(x, name, arguments);
        Check.holds(name + Arrays.toString(arguments) + " leaves a wheel that answers", x.count(0) >= 8 && x.state(3) >= 0 && first <= 1000000);
    }
}
