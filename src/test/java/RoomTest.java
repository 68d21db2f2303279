import com.sun.management.ThreadMXBean;
import java.lang.management.ManagementFactory;
import java.lang.reflect.InvocationTargetException;
import java.lang.reflect.Method;
import java.lang.reflect.Modifier;

/** All calls of a run live in one room: an object is small, and its calls make nothing but exceptions. */
public final class RoomTest {
    private static final Check CHECK = new Check("RoomTest");
    private static final ThreadMXBean THREADS = (ThreadMXBean) ManagementFactory.getThreadMXBean();

    private static long made() {
        return THREADS.getThreadAllocatedBytes(Thread.currentThread().getId());
    }

    public static void main(String[] args) throws Exception {
        new AbsentRings();
        long before = made();
        AbsentRings x = new AbsentRings();
        long object = made() - before;
        CHECK.isTrue("an object takes " + object + " bytes", object < 40_000);
        Check.text(x, "road 0 1;dish 00000000;dish 11111111;person weight 1 at 0;person weight 1 at 0;"
                + "person weight 1 at 0;person weight 1 at 0;person weight 1 at 0;person weight 1 at 0;"
                + "person weight 1 at 0;person weight 1 at 0").house();
        Check.law(x, "more 1 if (1+2+3+person<night or cold>vote+weight and not promised);less 2 if three;off if cold>3");
        for (int round = 0; round < 2; round++) {
            for (Method method : AbsentRings.class.getDeclaredMethods()) {
                if (Modifier.isPublic(method.getModifiers())) {
                    ask(x, method);
                }
            }
        }
        CHECK.finish();
    }

    private static void ask(AbsentRings x, Method method) throws IllegalAccessException {
        Class<?>[] types = method.getParameterTypes();
        Object[] args = new Object[types.length];
        for (int i = 0; i < args.length; i++) {
            args[i] = types[i] == boolean.class ? (Object) Boolean.TRUE : (Object) 1;
        }
        if (types.length == 1 && types[0] == int.class && method.getName().equals("nights")) {
            args[0] = 60;
        }
        if (method.getName().equals("span") || method.getName().equals("trial")) {
            args[0] = 60;
        }
        if (method.getName().equals("end")) {
            args[0] = 0;
        }
        long before = made();
        for (int i = 0; i < 20; i++) {
            try {
                method.invoke(x, args);
            } catch (InvocationTargetException e) {
                continue;
            }
        }
        long each = (made() - before) / 20;
        // Calling by reflection makes some objects, too, most of them at the first calls.
        CHECK.isTrue(method.getName() + " makes " + each + " bytes", each < 4_000);
    }
}
