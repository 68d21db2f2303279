import java.lang.reflect.InvocationTargetException;
import java.lang.reflect.Method;
import java.lang.reflect.Modifier;
import java.util.ArrayList;
import java.util.Comparator;
import java.util.List;
import java.util.Random;

/** Runs of drawn calls on the class and on the model: the same answers and the same exceptions. */
public final class ModelTest {
    private static final int RUNS = 1500;
    private static final int CALLS = 200;

    private final Random random;
    private final List<Method> face = new ArrayList<>();
    private final AbsentRings x = new AbsentRings();
    private final Model m = new Model();
    private final List<String> calls = new ArrayList<>();
    private static int asked;

    private ModelTest(long seed) {
        random = new Random(seed);
        for (Method method : AbsentRings.class.getDeclaredMethods()) {
            if (Modifier.isPublic(method.getModifiers())) {
                face.add(method);
            }
        }
        face.sort(Comparator.comparing(Method::getName));
    }

    public static void main(String[] args) throws Exception {
        int wrong = 0;
        int runs = args.length > 0 ? Integer.parseInt(args[0]) : RUNS;
        for (int run = 0; run < runs && wrong < 3; run++) {
            ModelTest test = new ModelTest(run);
            if (!test.run()) {
                wrong++;
                System.out.println("run " + run + ", the latest calls:");
                List<String> calls = test.calls;
                calls.subList(Math.max(0, calls.size() - 30), calls.size()).forEach(System.out::println);
            }
        }
        System.out.println("ModelTest: " + asked + " calls, " + wrong + " runs not as due");
        if (wrong != 0) {
            System.exit(1);
        }
    }

    private boolean run() throws Exception {
        if (random.nextInt(4) == 0 && !tell(fullHouse(), "house")) {
            return false;
        }
        int begins = 1 + random.nextInt(3);
        for (int i = 0; i < begins; i++) {
            if (!tell(houseText(), "house")) {
                return false;
            }
        }
        if (random.nextInt(3) > 0 && !tell(lawText(), "law")) {
            return false;
        }
        for (int i = 0; i < CALLS; i++) {
            if (!step()) {
                return false;
            }
        }
        return true;
    }

    private boolean step() throws Exception {
        int kind = random.nextInt(40);
        if (kind == 0) {
            return tell(spoil(houseText()), "house");
        }
        if (kind == 1) {
            return tell(spoil(lawText()), "law");
        }
        if (kind < 6) {
            return act();
        }
        Method method = face.get(random.nextInt(face.size()));
        String name = method.getName();
        if (name.equals("house") || name.equals("law") || name.equals("back") && random.nextInt(4) > 0) {
            return true;
        }
        if (List.of("where", "likely", "next", "lying", "brides", "rather").contains(name) && !tellRows(name)) {
            return false;
        }
        Class<?>[] types = method.getParameterTypes();
        Object[] args = new Object[types.length];
        for (int i = 0; i < args.length; i++) {
            args[i] = types[i] == boolean.class ? (Object) random.nextBoolean() : (Object) argument(name);
        }
        return both(name, args);
    }

    private boolean act() throws Exception {
        int p = random.nextInt(Math.max(1, m.count(0)));
        switch (random.nextInt(5)) {
            case 0:
                return both("leave", p);
            case 1:
                return both("nights", 1 + random.nextInt(60));
            case 2:
                return both("off", p);
            case 3:
                return both("rise", p);
            default:
                return both("serve", random.nextInt(Math.max(1, m.count(1))));
        }
    }

    private int argument(String name) {
        if (name.equals("feed") || name.equals("seed") || name.equals("wins") || name.equals("blocks")) {
            return random.nextInt(3) == 0 ? random.nextInt() : random.nextInt(256);
        }
        if (name.equals("end")) {
            return random.nextInt(430) - 10;
        }
        int kind = random.nextInt(30);
        if (kind == 0) {
            return random.nextInt();
        }
        if (kind < 3) {
            return random.nextInt(64);
        }
        return kind < 10 ? random.nextInt(15) - 2 : random.nextInt(Math.max(1, m.count(0)));
    }

    private boolean both(String name, Object... args) throws Exception {
        String one = answer(x, name, args);
        String two = answer(m, name, args);
        asked++;
        StringBuilder call = new StringBuilder(name).append(java.util.Arrays.toString(args)).append(" = ").append(one);
        if (!one.equals(two)) {
            call.append(", due is ").append(two);
        }
        calls.add(call.toString());
        return one.equals(two);
    }

    private static String answer(Object on, String name, Object[] args) throws Exception {
        for (Method method : on.getClass().getMethods()) {
            if (method.getName().equals(name) && method.getDeclaringClass() == on.getClass()) {
                try {
                    return String.valueOf(method.invoke(on, args));
                } catch (InvocationTargetException e) {
                    return e.getCause().getClass().getName();
                }
            }
        }
        throw new IllegalStateException(name);
    }

    // ---- what is told

    private boolean tell(String text, String name) throws Exception {
        calls.add("\"" + text + "\"");
        return put(text.chars().toArray()) && both(name) && both("fault");
    }

    private boolean put(int[] bytes) throws Exception {
        if (!both("end", 0)) {
            return false;
        }
        for (int from = 0; from < bytes.length; from += 20) {
            Object[] five = new Object[5];
            for (int i = 0; i < 5; i++) {
                int n = 0;
                for (int j = 0; j < 4; j++) {
                    int at = from + 4 * i + j;
                    n = n << 8 | (at < bytes.length ? bytes[at] & 255 : 0);
                }
                five[i] = n;
            }
            if (!both("feed", five)) {
                return false;
            }
        }
        return both("end", bytes.length);
    }

    private boolean tellRows(String name) throws Exception {
        int n = m.count(0);
        int dishes = m.count(1);
        int[] bytes;
        if (name.equals("brides") || name.equals("rather")) {
            bytes = new int[n * n];
            int most = 1 + random.nextInt(10);
            for (int i = 0; i < bytes.length; i++) {
                bytes[i] = random.nextInt(3) == 0 ? 0 : random.nextInt(most);
            }
        } else if (name.equals("lying")) {
            bytes = new int[dishes];
            int p = random.nextInt(Math.max(1, n));
            for (int i = 0; i < dishes; i++) {
                int place = n == 0 ? NONE : m.person(p, 0);
                bytes[i] = place == NONE || random.nextInt(6) == 0 ? random.nextInt(12) : m.eats(p, place, i);
            }
        } else {
            bytes = rowsOfOne(dishes);
        }
        if (bytes.length > 0 && random.nextInt(12) == 0) {
            bytes[random.nextInt(bytes.length)] = random.nextInt(256);
        }
        if (random.nextInt(15) == 0) {
            bytes = java.util.Arrays.copyOf(bytes, Math.max(0, bytes.length + random.nextInt(5) - 2));
        }
        return put(bytes);
    }

    private static final int NONE = -1;

    /** Rows that one who really wanders there would leave. */
    private int[] rowsOfOne(int dishes) {
        int rows = dishes == 0 ? 0 : random.nextInt(random.nextBoolean() ? 4 : 22);
        int[] bytes = new int[2 * rows];
        int at = random.nextInt(8);
        for (int i = 0; i < rows; i++) {
            int to = random.nextInt(8);
            at = to != at && m.road(at, to) ? to : at;
            bytes[2 * i] = random.nextInt(dishes);
            bytes[2 * i + 1] = m.eaten(bytes[2 * i], at);
        }
        return bytes;
    }

    private String houseText() {
        StringBuilder s = new StringBuilder();
        int lines = random.nextInt(8) == 0 ? random.nextInt(17) : 4 + random.nextInt(11);
        for (int i = 0; i < lines && s.length() < 350; i++) {
            s.append(i == 0 ? "" : ";").append(blank()).append(houseLine()).append(blank());
        }
        return s.toString();
    }

    private String fullHouse() {
        StringBuilder s = new StringBuilder("dish 12031450;dish 00112233;walk 70;limit 2;road 0 1;quota 12");
        for (int i = 0; i < 8; i++) {
            s.append(";person weight ").append(1 + random.nextInt(40)).append(random.nextBoolean() ? " at 0" : "")
                    .append(" vote ").append(random.nextInt(9));
        }
        return s.toString();
    }

    private String blank() {
        return random.nextInt(12) == 0 ? "  " : "";
    }

    private String houseLine() {
        switch (random.nextInt(14)) {
            case 0: case 1: case 2: case 3:
                return "person weight " + (1 + random.nextInt(random.nextBoolean() ? 3 : 99))
                        + (random.nextBoolean() ? " at " + random.nextInt(random.nextBoolean() ? 2 : 8) : "")
                        + (random.nextBoolean() ? " vote " + random.nextInt(random.nextBoolean() ? 4 : 21) : "")
                        + (random.nextBoolean() ? " legs " + (3 + random.nextInt(2)) : "");
            case 4: case 5: case 6:
                StringBuilder f = new StringBuilder("dish ");
                int most = 1 + random.nextInt(10);
                for (int i = 0; i < 8; i++) {
                    f.append(random.nextInt(3) == 0 ? 0 : random.nextInt(most));
                }
                return f.toString();
            case 7: case 8: case 9:
                return "road " + random.nextInt(8) + " " + random.nextInt(random.nextBoolean() ? 3 : 8);
            case 10:
                return "promise " + random.nextInt(4) + " " + random.nextInt(6);
            case 11:
                return "quota " + random.nextInt(random.nextBoolean() ? 8 : 60);
            case 12:
                return random.nextBoolean() ? "walk " + random.nextInt(101) : "limit " + (1 + random.nextInt(5));
            default:
                return random.nextBoolean() ? "iron " + random.nextInt(300) : "night " + random.nextInt(1000);
        }
    }

    private String lawText() {
        StringBuilder s = new StringBuilder();
        int lines = random.nextInt(6);
        for (int i = 0; i < lines && s.length() < 300; i++) {
            s.append(i == 0 ? "" : ";").append(blank());
            String word = List.of("more ", "less ", "off").get(random.nextInt(3));
            s.append(word).append(word.equals("off") ? "" : String.valueOf(random.nextInt(random.nextInt(6) + 1)));
            if (random.nextInt(6) > 0) {
                s.append(" if ").append(condition(random.nextInt(4)));
            }
        }
        return s.length() > 400 ? s.substring(0, 400) : s.toString();
    }

    private String condition(int size) {
        switch (size == 0 ? 10 : random.nextInt(6)) {
            case 0:
                return "not " + condition(size - 1);
            case 1:
                return "(" + condition(size - 1) + ")";
            case 2: case 3:
                return condition(size - 1) + " and " + condition(size - 1);
            case 4: case 5:
                return condition(size - 1) + " or " + blank() + condition(size - 1);
            default:
                int kind = random.nextInt(8);
                return kind == 0 ? "promised" : kind == 1 ? "three" : sum() + (kind < 5 ? "<" : ">") + sum();
        }
    }

    private String sum() {
        StringBuilder s = new StringBuilder();
        int parts = 1 + random.nextInt(2);
        for (int i = 0; i < parts; i++) {
            s.append(i == 0 ? "" : "+").append(blank());
            s.append(random.nextInt(3) == 0 ? String.valueOf(random.nextInt(random.nextBoolean() ? 9 : 200))
                    : List.of("person", "place", "dish", "cold", "vote", "weight", "night").get(random.nextInt(7)));
        }
        return s.toString();
    }

    private String spoil(String text) {
        StringBuilder s = new StringBuilder(text);
        int times = random.nextInt(3);
        for (int i = 0; i < times && s.length() > 0; i++) {
            int at = random.nextInt(s.length());
            switch (random.nextInt(5)) {
                case 0:
                    s.deleteCharAt(at);
                    break;
                case 1:
                    s.setCharAt(at, (char) random.nextInt(256));
                    break;
                case 2:
                    s.insert(at, " ;0123456789<>+()azif".charAt(random.nextInt(21)));
                    break;
                case 3:
                    s.setLength(at);
                    break;
                default:
                    s.insert(at, List.of(" not ", " (", ")", ";", " and ", " person ", "0", " dish ")
                            .get(random.nextInt(8)));
                    break;
            }
        }
        return s.length() > 400 ? s.substring(0, 400) : s.toString();
    }
}
