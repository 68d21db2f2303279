import java.lang.reflect.InvocationTargetException;
import java.lang.reflect.Method;
import java.lang.reflect.Modifier;
import java.util.ArrayList;
import java.util.Comparator;
import java.util.List;
import java.util.Random;

/** Each call with numbers far out and at all bounds, on houses of all kinds: it throws only what its face names. */
public final class OddCallsTest {
    private static final Check CHECK = new Check("OddCallsTest");
    /** With the calls that put bytes on the TAPE these stay below the 512 of which the document tells. */
    private static final int MOST_CALLS = 18;
    private static final int[] NUMBERS = {Integer.MIN_VALUE, Integer.MIN_VALUE + 1, -256, -2, -1, 0, 1, 3, 4, 5, 6,
        7, 8, 9, 10, 20, 21, 59, 60, 61, 99, 255, 256, 400, 65536, Integer.MAX_VALUE - 1, Integer.MAX_VALUE};
    private static final String PEOPLE = "person weight 99 at 0 legs 3;person weight 1 at 7 vote 20;person weight 5;"
            + "person weight 5 at 1 vote 0;person weight 5 at 2;person weight 5 at 3;person weight 5 at 4;"
            + "person weight 7";
    private static final String DISHES = "dish 00000000;dish 01234567;dish 99999999;dish 10101010;dish 00110011;"
            + "dish 00001111";
    private static final String ROADS = "road 0 1;road 1 2;road 2 3;road 0 7;road 3 4;limit 1;quota 3;walk 100";

    private final Random random = new Random(8);
    private final int kind;
    private AbsentRings x;
    private int calls;

    private OddCallsTest(int kind) {
        this.kind = kind;
        x = made();
    }

    public static void main(String[] args) throws IllegalAccessException {
        List<Method> face = new ArrayList<>();
        for (Method method : AbsentRings.class.getDeclaredMethods()) {
            if (Modifier.isPublic(method.getModifiers())) {
                face.add(method);
            }
        }
        face.sort(Comparator.comparing(Method::getName));
        for (int kind = 0; kind < 6; kind++) {
            OddCallsTest test = new OddCallsTest(kind);
            for (Method method : face) {
                test.askAll(method);
            }
        }
        CHECK.finish();
    }

    /** From a house of nobody to a full one with a law, in which all who were away are dead. */
    private AbsentRings made() {
        switch (kind) {
            case 0:
                return new AbsentRings();
            case 1:
                return Check.told(PEOPLE);
            case 2:
                return Check.told(DISHES);
            case 3:
                return Check.told(PEOPLE, DISHES, ROADS);
            default:
                AbsentRings full = Check.law(Check.told(PEOPLE, DISHES, ROADS, "promise 0 1;promise 1 0;promise 2 0"),
                        "more 30 if not (promised and night + cold > 3);less 30 if three or person < vote + 2;off");
                for (int p = 0; kind == 5 && p < full.count(0); p++) {
                    if (full.person(p, 7) == 1) {
                        full.off(p);
                    }
                }
                return full;
        }
    }

    private void askAll(Method method) throws IllegalAccessException {
        Class<?>[] types = method.getParameterTypes();
        int all = 1;
        for (int i = 0; i < types.length && i < 3; i++) {
            all *= types[i] == boolean.class ? 2 : NUMBERS.length;
        }
        // Of three numbers not all are put together: most of them are refused by the first.
        int many = Math.max(20, Math.min(all, 2000));
        for (int i = 0; i < many; i++) {
            Object[] args = new Object[types.length];
            int left = many < all ? random.nextInt(all) : i;
            for (int j = 0; j < args.length; j++) {
                boolean bit = types[j] == boolean.class;
                args[j] = bit ? (Object) (left % 2 == 0) : (Object) NUMBERS[left % NUMBERS.length];
                left = bit ? left / 2 : left / NUMBERS.length + (j >= 2 ? random.nextInt(99) : 0);
            }
            ask(method, args);
        }
    }

    private void ask(Method method, Object[] args) throws IllegalAccessException {
        calls++;
        if (calls % MOST_CALLS == 0) {
            x = made();
        }
        if (!List.of("feed", "end").contains(method.getName())) {
            tellSomething();
        }
        String got = "";
        try {
            method.invoke(x, args);
        } catch (InvocationTargetException e) {
            got = e.getCause().getClass().getName();
        }
        CHECK.isTrue(method.getName() + java.util.Arrays.toString(args) + " on house " + kind + " threw " + got,
                got.isEmpty() || names(method, got));
    }

    private static boolean names(Method method, String exception) {
        for (Class<?> named : method.getExceptionTypes()) {
            if (named.getName().equals(exception)) {
                return true;
            }
        }
        return false;
    }

    /** Now rows that some call can read, now bytes of any kind, now a text that is cut. */
    private void tellSomething() {
        int people = x.count(0);
        int dishes = x.count(1);
        int[] lengths = {0, dishes, people * people, 2, 38, 40, 42, 400, random.nextInt(401)};
        int length = lengths[random.nextInt(lengths.length)];
        int[] most = {1, 2, 10, 100, 256};
        int bound = most[random.nextInt(most.length)];
        if (random.nextInt(4) == 0) {
            String text = random.nextBoolean() ? "more 1 if not(((((promised and 1+2<3" : PEOPLE + ";" + DISHES;
            Check.text(x, text.substring(0, random.nextInt(text.length() + 1)));
            return;
        }
        int[] bytes = new int[length];
        for (int i = 0; i < length; i++) {
            bytes[i] = random.nextInt(bound);
        }
        Check.tape(x, bytes);
    }
}
