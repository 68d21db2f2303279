import java.math.BigInteger;
import java.nio.charset.StandardCharsets;
import java.util.ArrayDeque;
import java.util.ArrayList;
import java.util.Deque;
import java.util.List;
import java.util.NoSuchElementException;
import java.util.regex.Matcher;
import java.util.regex.Pattern;

/**
 * The document once more, in another way: trees, lists, exceptions and trying all ways, where the class counts
 * cleverly. ModelTest asks both the same. Public methods bear the names of the face.
 */
public final class Model {
    static final int NONE = -1;

    static final class Someone {
        int place = NONE;
        int vote = 1;
        int weight;
        int legs = 4;
        int promised = NONE;
        int cold;
        boolean dead;

        Someone copy() {
            Someone s = new Someone();
            s.place = place;
            s.vote = vote;
            s.weight = weight;
            s.legs = legs;
            s.promised = promised;
            s.cold = cold;
            s.dead = dead;
            return s;
        }

        boolean away() {
            return place >= 0 && !dead;
        }
    }

    record Row(int night, int person, int kind, int place) { }

    record Facts(int person, int place, int dish, int cold, int vote, int weight, int night, boolean promised,
            boolean three) { }

    interface Cond {
        boolean holds(Facts f);
    }

    interface Sum {
        int of(Facts f);
    }

    record Line(String word, int n, Cond cond) { }

    static final class World {
        List<Someone> people = new ArrayList<>();
        List<int[]> dishes = new ArrayList<>();
        boolean[][] roads = new boolean[8][8];
        List<Row> log = new ArrayList<>();
        List<Line> law;
        int texts;
        int quota = 1;
        int walk = 50;
        int limit = 9;
        int iron = 100;
        int night;
        int seed = 1;

        World copy() {
            World w = new World();
            for (Someone s : people) {
                w.people.add(s.copy());
            }
            w.dishes = new ArrayList<>(dishes);
            for (int i = 0; i < 8; i++) {
                w.roads[i] = roads[i].clone();
            }
            w.log = new ArrayList<>(log);
            w.law = law;
            w.texts = texts;
            w.quota = quota;
            w.walk = walk;
            w.limit = limit;
            w.iron = iron;
            w.night = night;
            w.seed = seed;
            return w;
        }
    }

    @SuppressWarnings("serial")
    static final class Wrong extends RuntimeException {
        final int at;

        Wrong(int at) {
            this.at = at;
        }
    }

    record Thing(String text, int at) { }

    private World w = new World();
    private final List<Integer> tape = new ArrayList<>();
    private int wrongByte = NONE;
    private final Deque<World> past = new ArrayDeque<>();
    private World kept;

    // ---- the tape and the texts

    public int feed(int a, int b, int c, int d, int e) {
        if (tape.size() > 380) {
            return NONE;
        }
        for (int n : new int[] {a, b, c, d, e}) {
            tape.add(n >>> 24);
            tape.add(n >>> 16 & 255);
            tape.add(n >>> 8 & 255);
            tape.add(n & 255);
        }
        return tape.size();
    }

    public boolean end(int n) {
        if (n < 0 || n > tape.size()) {
            return false;
        }
        tape.subList(n, tape.size()).clear();
        return true;
    }

    private int[] use() {
        int[] bytes = tape.stream().mapToInt(Integer::intValue).toArray();
        tape.clear();
        return bytes;
    }

    private static final Pattern THING = Pattern.compile("[a-z]+|[0-9]+|[^ ]", Pattern.DOTALL);

    private List<Thing> things;
    private int next;
    private World draft;

    private void open(int[] bytes) {
        byte[] raw = new byte[bytes.length];
        for (int i = 0; i < raw.length; i++) {
            raw[i] = (byte) bytes[i];
        }
        String s = new String(raw, StandardCharsets.ISO_8859_1);
        things = new ArrayList<>();
        Matcher m = THING.matcher(s);
        while (m.find()) {
            things.add(new Thing(m.group(), m.start()));
        }
        things.add(new Thing("", s.length()));
        next = 0;
    }

    private Thing look() {
        return things.get(next);
    }

    private boolean takes(String s) {
        if (look().text.equals(s)) {
            next++;
            return true;
        }
        return false;
    }

    private void must(String s) {
        if (!takes(s)) {
            throw new Wrong(look().at);
        }
    }

    private int number(int least, int most) {
        Thing t = look();
        if (!t.text.matches("[0-9]{1,3}") || Integer.parseInt(t.text) < least || Integer.parseInt(t.text) > most) {
            throw new Wrong(t.at);
        }
        next++;
        return Integer.parseInt(t.text);
    }

    public int house() {
        open(use());
        draft = w.copy();
        wrongByte = NONE;
        try {
            lines(14, true, null);
        } catch (Wrong e) {
            wrongByte = e.at;
            throw new IllegalArgumentException();
        }
        if (w.texts == 12) {
            throw new UnsupportedOperationException();
        }
        w = draft;
        past.clear();
        return ++w.texts;
    }

    public int law() {
        open(use());
        wrongByte = NONE;
        List<Line> lines = new ArrayList<>();
        try {
            lines(12, false, lines);
        } catch (Wrong e) {
            wrongByte = e.at;
            throw new IllegalArgumentException();
        }
        w.law = lines;
        past.clear();
        return lines.size();
    }

    private void lines(int most, boolean ofHouse, List<Line> law) {
        if (look().text.isEmpty()) {
            return;
        }
        int lines = 0;
        do {
            if (lines++ == most) {
                throw new Wrong(look().at);
            }
            if (ofHouse) {
                houseLine();
            } else {
                law.add(lawLine());
            }
        } while (takes(";"));
        if (!look().text.isEmpty()) {
            throw new Wrong(look().at);
        }
    }

    private void houseLine() {
        Thing t = look();
        next++;
        switch (t.text) {
            case "person" -> {
                if (draft.people.size() == 8) {
                    throw new Wrong(t.at);
                }
                Someone s = new Someone();
                must("weight");
                s.weight = number(1, 99);
                s.place = takes("at") ? number(0, 7) : NONE;
                s.vote = takes("vote") ? number(0, 20) : 1;
                s.legs = takes("legs") ? number(3, 4) : 4;
                draft.people.add(s);
            }
            case "dish" -> {
                if (draft.dishes.size() == 6) {
                    throw new Wrong(t.at);
                }
                if (!look().text.matches("[0-9]{8}")) {
                    throw new Wrong(look().at);
                }
                draft.dishes.add(look().text.chars().map(c -> c - '0').toArray());
                next++;
            }
            case "road" -> {
                int a = number(0, 7);
                int at = look().at;
                int b = number(0, 7);
                if (a == b) {
                    throw new Wrong(at);
                }
                draft.roads[a][b] = true;
                draft.roads[b][a] = true;
            }
            case "promise" -> {
                int a = number(0, draft.people.size() - 1);
                int at = look().at;
                int b = number(0, draft.people.size() - 1);
                if (a == b) {
                    throw new Wrong(at);
                }
                draft.people.get(a).promised = b;
            }
            case "quota" -> draft.quota = number(0, 160);
            case "walk" -> draft.walk = number(0, 100);
            case "limit" -> draft.limit = number(1, 99);
            case "iron" -> draft.iron = number(0, 999);
            case "night" -> draft.night = number(0, 999);
            default -> throw new Wrong(t.at);
        }
    }

    private Line lawLine() {
        Thing t = look();
        next++;
        if (!List.of("more", "less", "off").contains(t.text)) {
            throw new Wrong(t.at);
        }
        int n = t.text.equals("off") ? 0 : number(0, 30);
        return new Line(t.text, n, takes("if") ? cond(0) : f -> true);
    }

    private Cond cond(int depth) {
        List<Cond> any = new ArrayList<>();
        do {
            List<Cond> all = new ArrayList<>();
            do {
                all.add(atom(depth));
            } while (takes("and"));
            any.add(f -> all.stream().allMatch(c -> c.holds(f)));
        } while (takes("or"));
        return f -> any.stream().anyMatch(c -> c.holds(f));
    }

    private Cond atom(int depth) {
        Thing t = look();
        if (t.text.equals("not") || t.text.equals("(")) {
            if (depth == 6) {
                throw new Wrong(t.at);
            }
            next++;
            if (t.text.equals("not")) {
                Cond c = atom(depth + 1);
                return f -> !c.holds(f);
            }
            Cond c = cond(depth + 1);
            must(")");
            return c;
        }
        if (takes("promised")) {
            return Facts::promised;
        }
        if (takes("three")) {
            return Facts::three;
        }
        Sum left = sum();
        boolean less = look().text.equals("<");
        if (!less && !look().text.equals(">")) {
            throw new Wrong(look().at);
        }
        next++;
        Sum right = sum();
        return less ? f -> left.of(f) < right.of(f) : f -> left.of(f) > right.of(f);
    }

    private Sum sum() {
        List<Sum> parts = new ArrayList<>();
        do {
            parts.add(part());
        } while (takes("+"));
        return f -> parts.stream().mapToInt(p -> p.of(f)).sum();
    }

    private Sum part() {
        Sum fact = switch (look().text) {
            case "person" -> Facts::person;
            case "place" -> Facts::place;
            case "dish" -> Facts::dish;
            case "cold" -> Facts::cold;
            case "vote" -> Facts::vote;
            case "weight" -> Facts::weight;
            case "night" -> Facts::night;
            default -> null;
        };
        if (fact != null) {
            next++;
            return fact;
        }
        int n = number(0, 999);
        return f -> n;
    }

    public int fault() {
        return wrongByte;
    }

    // ---- what there is

    private Someone some(int person) {
        if (person < 0 || person >= w.people.size()) {
            throw new IndexOutOfBoundsException();
        }
        return w.people.get(person);
    }

    private void place(int place) {
        if (place < 0 || place > 7) {
            throw new IndexOutOfBoundsException();
        }
    }

    private void dish(int dish) {
        if (dish < 0 || dish >= w.dishes.size()) {
            throw new IndexOutOfBoundsException();
        }
    }

    private void within(int n, int least, int most) {
        if (n < least || n > most) {
            throw new IllegalArgumentException();
        }
    }

    private static Facts facts(World v, int p, int place, int dish) {
        Someone s = v.people.get(p);
        return new Facts(p, place, dish, s.cold, s.vote, s.weight, v.night, s.promised != NONE, s.legs == 3);
    }

    private static int eatsIn(World v, int p, int place, int dish) {
        int much = v.dishes.get(dish)[place];
        if (v.law != null) {
            for (Line l : v.law) {
                if (l.cond.holds(facts(v, p, place, dish))) {
                    much += l.word.equals("more") ? l.n : l.word.equals("less") ? -l.n : 0;
                }
            }
        }
        return much < 0 ? 0 : much;
    }

    private static boolean mayBeOff(World v, int p) {
        Someone s = v.people.get(p);
        if (v.law == null || v.law.stream().noneMatch(l -> l.word.equals("off"))) {
            return s.cold >= v.limit;
        }
        return v.law.stream().anyMatch(l -> l.word.equals("off") && l.cond.holds(facts(v, p, s.place, 0)));
    }

    public int person(int person, int what) {
        Someone s = some(person);
        return switch (what) {
            case 0 -> s.place;
            case 1 -> s.vote;
            case 2 -> s.weight;
            case 3 -> s.legs;
            case 4 -> s.promised;
            case 5 -> s.dead ? 1 : 0;
            case 6 -> s.cold;
            case 7 -> s.away() && mayBeOff(w, person) ? 1 : 0;
            case 8 -> s.dead || count(10) == 0 ? 0 : 100 * s.vote / count(10);
            case 9 -> soon(s);
            default -> throw new NoSuchElementException();
        };
    }

    private int soon(Someone s) {
        if (s.dead) {
            return NONE;
        }
        if (s.place == NONE) {
            return 0;
        }
        int d = dist()[s.place][0];
        return d > 50 ? NONE : d + 1;
    }

    public int eaten(int dish, int place) {
        dish(dish);
        place(place);
        return w.dishes.get(dish)[place];
    }

    public int eats(int person, int place, int dish) {
        some(person);
        place(place);
        dish(dish);
        return eatsIn(w, person, place, dish);
    }

    public boolean road(int place, int other) {
        place(place);
        place(other);
        if (place == other) {
            throw new IllegalArgumentException();
        }
        return w.roads[place][other];
    }

    // ---- acts

    private void act() {
        past.addLast(w.copy());
        if (past.size() > 12) {
            past.removeFirst();
        }
    }

    private static void note(World v, int person, int kind, int place) {
        v.log.add(new Row(v.night, person, kind, place));
        if (v.log.size() > 60) {
            v.log.remove(0);
        }
    }

    public int leave(int person) {
        Someone s = some(person);
        if (s.dead || s.place != NONE || w.iron < s.weight) {
            throw new IllegalStateException();
        }
        act();
        s.place = 0;
        w.iron -= s.weight;
        note(w, person, 0, 0);
        return w.iron;
    }

    public int home(int person) {
        Someone s = some(person);
        if (!s.away() || s.place != 0) {
            throw new IllegalStateException();
        }
        act();
        s.place = NONE;
        s.cold = 0;
        w.iron = Math.min(9999, w.iron + s.weight);
        note(w, person, 2, 0);
        return w.iron;
    }

    private static int draw(World v) {
        v.seed = v.seed * 1103515245 + 12345;
        return (v.seed & 0x7fffffff) >> 16;
    }

    private static int night(World v, int dish, boolean wandering) {
        if (wandering) {
            for (Someone s : v.people) {
                if (!s.away()) {
                    continue;
                }
                if (draw(v) % 100 < v.walk) {
                    List<Integer> to = new ArrayList<>();
                    for (int i = 0; i < 8; i++) {
                        if (v.roads[s.place][i]) {
                            to.add(i);
                        }
                    }
                    if (!to.isEmpty()) {
                        s.place = to.get(draw(v) % to.size());
                    }
                }
            }
        }
        int colds = 0;
        for (int p = 0; p < v.people.size() && dish >= 0; p++) {
            Someone s = v.people.get(p);
            if (!s.away()) {
                continue;
            }
            if (eatsIn(v, p, s.place, dish) > 0) {
                s.cold = 0;
                continue;
            }
            colds++;
            if (s.cold == v.limit - 1) {
                note(v, p, 3, s.place);
            }
            s.cold = Math.min(99, s.cold + 1);
        }
        v.night = Math.min(9999, v.night + 1);
        return colds;
    }

    private static int nightsIn(World v, int n, boolean wandering) {
        int sum = 0;
        for (int i = 0; i < n; i++) {
            sum += night(v, v.dishes.isEmpty() ? NONE : v.night % v.dishes.size(), wandering);
        }
        return sum;
    }

    public int serve(int dish) {
        dish(dish);
        act();
        return night(w, dish, true);
    }

    public int off(int person) {
        Someone s = some(person);
        if (!s.away() || !mayBeOff(w, person)) {
            throw new IllegalStateException();
        }
        act();
        s.dead = true;
        w.iron = Math.min(9999, w.iron + s.weight);
        note(w, person, 1, s.place);
        return w.iron;
    }

    public int rise(int person) {
        Someone s = some(person);
        if (!s.dead) {
            throw new IllegalStateException();
        }
        act();
        int was = s.place;
        note(w, person, 2, was);
        s.dead = false;
        s.place = NONE;
        s.cold = 0;
        return was;
    }

    public int vote(int person, int n) {
        Someone s = some(person);
        within(n, 0, 20);
        act();
        int was = s.vote;
        s.vote = n;
        return was;
    }

    public int promise(int person, int other) {
        Someone s = some(person);
        if (other != NONE) {
            some(other);
        }
        if (person == other) {
            throw new IllegalArgumentException();
        }
        act();
        int was = s.promised;
        s.promised = other;
        return was;
    }

    public int nights(int n) {
        within(n, 1, 60);
        act();
        return nightsIn(w, n, true);
    }

    // ---- places

    private int[][] dist() {
        int[][] d = new int[8][8];
        for (int i = 0; i < 8; i++) {
            for (int j = 0; j < 8; j++) {
                d[i][j] = i == j ? 0 : w.roads[i][j] ? 1 : 1000;
            }
        }
        for (int k = 0; k < 8; k++) {
            for (int i = 0; i < 8; i++) {
                for (int j = 0; j < 8; j++) {
                    d[i][j] = Math.min(d[i][j], d[i][k] + d[k][j]);
                }
            }
        }
        return d;
    }

    public int far(int place, int other) {
        place(place);
        place(other);
        int d = dist()[place][other];
        return d > 50 ? NONE : d;
    }

    private boolean[] grow(boolean[] at) {
        boolean[] then = at.clone();
        for (int i = 0; i < 8; i++) {
            for (int j = 0; j < 8; j++) {
                then[j] |= at[i] && w.roads[i][j];
            }
        }
        return then;
    }

    public int meet(int person, int other) {
        Someone s = some(person);
        Someone t = some(other);
        if (person == other) {
            throw new IllegalArgumentException();
        }
        if (!s.away() || !t.away()) {
            return NONE;
        }
        boolean[] one = new boolean[8];
        boolean[] two = new boolean[8];
        one[s.place] = true;
        two[t.place] = true;
        for (int n = 0; n < 30; n++) {
            for (int i = 0; i < 8; i++) {
                if (one[i] && two[i]) {
                    return n;
                }
            }
            one = grow(one);
            two = grow(two);
        }
        return NONE;
    }

    private BigInteger[] ways() {
        int[] t = use();
        if (t.length % 2 == 1 || t.length > 40) {
            throw new IllegalArgumentException();
        }
        for (int i = 0; i < t.length; i += 2) {
            if (t[i] >= w.dishes.size() || t[i + 1] > 9) {
                throw new IllegalArgumentException();
            }
        }
        BigInteger[][] memo = new BigInteger[8][21];
        BigInteger[] ways = new BigInteger[8];
        for (int i = 0; i < 8; i++) {
            ways[i] = waysTo(i, t.length / 2, t, memo);
        }
        return ways;
    }

    private BigInteger waysTo(int place, int rows, int[] t, BigInteger[][] memo) {
        if (rows == 0) {
            return BigInteger.ONE;
        }
        if (memo[place][rows] == null) {
            BigInteger sum = BigInteger.ZERO;
            if (w.dishes.get(t[2 * rows - 2])[place] == t[2 * rows - 1]) {
                for (int i = 0; i < 8; i++) {
                    if (i == place || w.roads[i][place]) {
                        sum = sum.add(waysTo(i, rows - 1, t, memo));
                    }
                }
            }
            memo[place][rows] = sum;
        }
        return memo[place][rows];
    }

    public int where(boolean paths) {
        BigInteger sum = BigInteger.ZERO;
        int bits = 0;
        BigInteger[] ways = ways();
        for (int i = 0; i < 8; i++) {
            sum = sum.add(ways[i]);
            bits += ways[i].signum() << i;
        }
        return paths ? sum.min(BigInteger.valueOf(9999)).intValue() : bits;
    }

    public int likely() {
        BigInteger[] ways = ways();
        BigInteger most = BigInteger.ZERO;
        int found = NONE;
        for (int i = 0; i < 8; i++) {
            if (ways[i].compareTo(most) > 0) {
                most = ways[i];
                found = i;
            }
        }
        return found;
    }

    public int next() {
        BigInteger[] ways = ways();
        boolean[] at = new boolean[8];
        for (int i = 0; i < 8; i++) {
            at[i] = ways[i].signum() > 0;
        }
        at = grow(at);
        List<Integer> places = new ArrayList<>();
        for (int i = 0; i < 8; i++) {
            if (at[i]) {
                places.add(i);
            }
        }
        if (places.size() < 2 || w.dishes.isEmpty()) {
            return NONE;
        }
        int found = NONE;
        long least = 99;
        for (int d = 0; d < w.dishes.size(); d++) {
            int[] eaten = w.dishes.get(d);
            long greatest = 0;
            for (int much = 0; much < 10; much++) {
                int m = much;
                greatest = Math.max(greatest, places.stream().filter(i -> eaten[i] == m).count());
            }
            if (greatest < least) {
                least = greatest;
                found = d;
            }
        }
        return found;
    }

    public int apart() {
        for (int many = 0; many <= w.dishes.size(); many++) {
            for (int set = 0; set < 1 << w.dishes.size(); set++) {
                if (Integer.bitCount(set) == many && tellsAll(set)) {
                    return set;
                }
            }
        }
        return NONE;
    }

    private boolean tellsAll(int set) {
        List<String> rows = new ArrayList<>();
        for (int i = 0; i < 8; i++) {
            StringBuilder row = new StringBuilder();
            for (int d = 0; d < w.dishes.size(); d++) {
                if ((set >> d & 1) == 1) {
                    row.append(w.dishes.get(d)[i]);
                }
            }
            rows.add(row.toString());
        }
        return rows.stream().distinct().count() == 8;
    }

    public int like(int dish) {
        dish(dish);
        int count = 0;
        for (int i = 0; i < 8; i++) {
            for (int j = 0; j < i; j++) {
                count += w.dishes.get(dish)[i] == w.dishes.get(dish)[j] ? 1 : 0;
            }
        }
        return count;
    }

    public int lying(int person) {
        int[] t = use();
        Someone s = some(person);
        if (t.length != w.dishes.size()) {
            throw new IllegalArgumentException();
        }
        for (int b : t) {
            within(b, 0, 99);
        }
        if (!s.away()) {
            throw new IllegalStateException();
        }
        int count = 0;
        for (int d = 0; d < t.length; d++) {
            count += eatsIn(w, person, s.place, d) != t[d] ? 1 : 0;
        }
        return count > 0 && s.legs == 4 ? NONE : count;
    }

    // ---- sides

    private List<Integer> living() {
        List<Integer> l = new ArrayList<>();
        for (int p = 0; p < w.people.size(); p++) {
            if (!w.people.get(p).dead) {
                l.add(p);
            }
        }
        return l;
    }

    private int votes(List<Integer> side) {
        return side.stream().mapToInt(p -> w.people.get(p).vote).sum();
    }

    private static int bits(List<Integer> side) {
        return side.stream().mapToInt(p -> 1 << p).sum();
    }

    private boolean won(List<Integer> side) {
        return votes(side) >= w.quota;
    }

    private static List<Integer> without(List<Integer> side, int p) {
        List<Integer> l = new ArrayList<>(side);
        l.remove(Integer.valueOf(p));
        return l;
    }

    /** Fewest first, then the least as bits. */
    private List<List<Integer>> allSides() {
        List<List<Integer>> all = new ArrayList<>();
        all.add(new ArrayList<>());
        for (int p : living()) {
            for (List<Integer> side : new ArrayList<>(all)) {
                List<Integer> more = new ArrayList<>(side);
                more.add(p);
                all.add(more);
            }
        }
        all.sort((s, t) -> s.size() != t.size() ? s.size() - t.size() : bits(s) - bits(t));
        return all;
    }

    public boolean wins(int side) {
        return won(living().stream().filter(p -> (side >> p & 1) == 1).toList());
    }

    public int needed() {
        int bits = bits(living());
        for (List<Integer> side : allSides()) {
            if (won(side)) {
                bits &= bits(side);
            }
        }
        return bits;
    }

    public int swings(int person) {
        some(person);
        int count = 0;
        for (List<Integer> side : allSides()) {
            if (side.contains(person) && won(side) && !won(without(side, person))) {
                count++;
            }
        }
        return count;
    }

    public int pivots(int person) {
        if (some(person).dead) {
            return 0;
        }
        int[] found = new int[2];
        orders(living(), 0, person, false, found);
        return 100 * found[0] / found[1];
    }

    private void orders(List<Integer> left, int votes, int person, boolean just, int[] found) {
        if (left.isEmpty()) {
            found[0] += just ? 1 : 0;
            found[1]++;
            return;
        }
        for (int p : left) {
            int then = votes + w.people.get(p).vote;
            boolean tips = p == person && votes < w.quota && then >= w.quota;
            orders(without(left, p), then, person, just || tips, found);
        }
    }

    public int side() {
        return allSides().stream().filter(this::won).mapToInt(Model::bits).findFirst().orElse(NONE);
    }

    public int minimal() {
        return (int) allSides().stream().filter(this::won)
                .filter(s -> s.stream().noneMatch(p -> won(without(s, p)))).count();
    }

    public int dummies() {
        return bits(living().stream().filter(p -> swings(p) == 0).toList());
    }

    public boolean blocks(int side) {
        return !won(living().stream().filter(p -> (side >> p & 1) == 0).toList());
    }

    private int[] splitting() {
        int[] parts = new int[8];
        int all = living().stream().mapToInt(this::swings).sum();
        if (all == 0) {
            return parts;
        }
        int most = NONE;
        int left = 100;
        for (int p : living()) {
            parts[p] = 100 * swings(p) / all;
            left -= parts[p];
            if (most == NONE || swings(p) > swings(most)) {
                most = p;
            }
        }
        parts[most] += left;
        return parts;
    }

    public int split(int person) {
        some(person);
        return splitting()[person];
    }

    public int leaves() {
        int[] parts = splitting();
        int all = votes(living());
        for (List<Integer> side : allSides()) {
            int has = side.stream().mapToInt(p -> parts[p]).sum();
            if (all > 0 && won(side) && has < 100 * votes(side) / all) {
                return bits(side);
            }
        }
        return NONE;
    }

    // ---- promises

    private int[] keen() {
        int[] t = use();
        return t;
    }

    private int[] checkKeen(int[] t) {
        int n = w.people.size();
        if (t.length != n * n) {
            throw new IllegalArgumentException();
        }
        for (int i = 0; i < t.length; i++) {
            if (i / n != i % n && t[i] > 9) {
                throw new IllegalArgumentException();
            }
        }
        return t;
    }

    private int[] bestWay;
    private int bestSum;

    private void tryWays(int p, int[] way, int sum, int[] k) {
        int n = w.people.size();
        if (p == n) {
            if (bestWay == null || sum > bestSum) {
                bestWay = way.clone();
                bestSum = sum;
            }
            return;
        }
        if (way[p] != NONE || w.people.get(p).dead) {
            tryWays(p + 1, way, sum, k);
            return;
        }
        tryWays(p + 1, way, sum, k);
        for (int q = p + 1; q < n; q++) {
            if (way[q] == NONE && !w.people.get(q).dead && k[p * n + q] > 0 && k[q * n + p] > 0) {
                way[p] = q;
                way[q] = p;
                tryWays(p + 1, way, sum + k[p * n + q] + k[q * n + p], k);
                way[p] = NONE;
                way[q] = NONE;
            }
        }
    }

    public int brides(int person) {
        int[] t = keen();
        if (person != NONE) {
            some(person);
        }
        checkKeen(t);
        bestWay = null;
        int[] way = new int[8];
        java.util.Arrays.fill(way, NONE);
        tryWays(0, way, 0, t);
        return person == NONE ? bestSum : bestWay[person];
    }

    public int rather() {
        int[] k = checkKeen(keen());
        int n = w.people.size();
        int count = 0;
        for (int p : living()) {
            for (int q : living()) {
                if (p < q && with(p) != q && rather(p, q, k, n) && rather(q, p, k, n)) {
                    count++;
                }
            }
        }
        return count;
    }

    private int with(int p) {
        int to = w.people.get(p).promised;
        return to != NONE && w.people.get(to).promised == p ? to : NONE;
    }

    private boolean rather(int p, int q, int[] k, int n) {
        return with(p) == NONE ? k[p * n + q] > 0 : k[p * n + q] > k[p * n + with(p)];
    }

    public boolean circle(int person) {
        some(person);
        int at = person;
        for (int i = 0; i < 20; i++) {
            at = w.people.get(at).promised;
            if (at == NONE || at == person) {
                return at == person;
            }
        }
        return false;
    }

    public int pairs() {
        int count = 0;
        for (int p = 0; p < w.people.size(); p++) {
            count += with(p) != NONE ? 1 : 0;
        }
        return count / 2;
    }

    public int jilts() {
        int bits = 0;
        for (int p = 0; p < w.people.size(); p++) {
            int to = w.people.get(p).promised;
            if (to != NONE) {
                int third = w.people.get(to).promised;
                bits |= third != NONE && third != p ? 1 << p : 0;
            }
        }
        return bits;
    }

    public int heir(int person) {
        some(person);
        return living().stream().filter(p -> w.people.get(p).promised == person).findFirst().orElse(NONE);
    }

    // ---- rings

    public int chairs() {
        return (int) w.people.stream().filter(s -> s.place == NONE).count();
    }

    private static List<Integer> away(World v) {
        List<Integer> l = new ArrayList<>();
        for (int p = 0; p < v.people.size(); p++) {
            if (v.people.get(p).away()) {
                l.add(p);
            }
        }
        return l;
    }

    public int empty() {
        return bits(away(w));
    }

    public int lasts() {
        World v = w.copy();
        int count = 0;
        for (Someone s : v.people) {
            if (s.place == NONE) {
                if (v.iron < s.weight) {
                    return count;
                }
                v.iron -= s.weight;
                count++;
            }
        }
        return count;
    }

    public int heaviest() {
        int found = NONE;
        for (int p : away(w)) {
            if (found == NONE || w.people.get(p).weight > w.people.get(found).weight) {
                found = p;
            }
        }
        return found;
    }

    public int odds(int person, int n, int place) {
        Someone s = some(person);
        place(place);
        within(n, 0, 4);
        if (!s.away()) {
            throw new IllegalStateException();
        }
        int[] much = new int[8];
        much[s.place] = 10000;
        for (int night = 0; night < n; night++) {
            int[] then = new int[8];
            for (int i = 0; i < 8; i++) {
                int roads = 0;
                for (int j = 0; j < 8; j++) {
                    roads += w.roads[i][j] ? 1 : 0;
                }
                int stays = much[i];
                if (roads > 0) {
                    int each = much[i] * w.walk / 100 / roads;
                    for (int j = 0; j < 8; j++) {
                        if (w.roads[i][j]) {
                            then[j] += each;
                            stays -= each;
                        }
                    }
                }
                then[i] += stays;
            }
            much = then;
        }
        return much[place];
    }

    public int rests(int person) {
        Someone s = some(person);
        if (!s.away()) {
            throw new IllegalStateException();
        }
        if (w.dishes.isEmpty()) {
            return NONE;
        }
        int eats = eatsIn(w, person, s.place, 0);
        int back = soon(s) == NONE ? 9 - 20 : 9 - soon(s);
        int[][] one = {{back + eats, back}, {s.vote + eats, s.vote}};
        int[][] cook = {{4, -1}, {-3, 0}};
        int bits = 0;
        for (int a = 0; a < 2; a++) {
            for (int b = 0; b < 2; b++) {
                if (one[1 - a][b] <= one[a][b] && cook[a][1 - b] <= cook[a][b]) {
                    bits |= 1 << 2 * a + b;
                }
            }
        }
        return bits;
    }

    public int coldest() {
        int found = NONE;
        for (int p : away(w)) {
            if (found == NONE || w.people.get(p).cold > w.people.get(found).cold) {
                found = p;
            }
        }
        return found;
    }

    public int starves(int person) {
        if (!some(person).away()) {
            return NONE;
        }
        for (int n = 1; n <= 60; n++) {
            World v = w.copy();
            nightsIn(v, n, false);
            if (mayBeOff(v, person)) {
                return n;
            }
        }
        return NONE;
    }

    public int alike() {
        int count = 0;
        for (Someone s : w.people) {
            for (Someone t : w.people) {
                count += s != t && s.vote == t.vote && s.weight == t.weight && s.legs == t.legs ? 1 : 0;
            }
        }
        return count / 2;
    }

    public int fills(int dish) {
        dish(dish);
        return away(w).stream().mapToInt(p -> eatsIn(w, p, w.people.get(p).place, dish)).sum();
    }

    public int ahead(int person, int n) {
        some(person);
        within(n, 0, 60);
        World v = w.copy();
        nightsIn(v, n, false);
        return v.people.get(person).cold;
    }

    public int trial(int n, boolean cold) {
        within(n, 0, 60);
        World v = w.copy();
        nightsIn(v, n, true);
        return cold ? bits(away(v).stream().filter(p -> v.people.get(p).cold >= v.limit).toList())
                : (int) away(v).stream().filter(p -> v.people.get(p).place == 0).count();
    }

    public int span(int n, boolean most) {
        within(n, 0, 60);
        List<Integer> sums = new ArrayList<>();
        for (int seed = 1; seed <= 6; seed++) {
            World v = w.copy();
            v.seed = seed;
            nightsIn(v, n, true);
            sums.add(away(v).stream().mapToInt(p -> v.people.get(p).cold).sum());
        }
        sums.sort(null);
        return sums.get(most ? 5 : 0);
    }

    public int led(int person, boolean night) {
        some(person);
        List<Row> rows = w.log.stream().filter(r -> r.person == person).toList();
        return !night ? rows.size() : rows.isEmpty() ? NONE : rows.get(rows.size() - 1).night;
    }

    public int log(int ago, int what) {
        if (what < 0 || what > 3) {
            throw new NoSuchElementException();
        }
        if (ago < 0 || ago >= w.log.size()) {
            return -2;
        }
        Row r = w.log.get(w.log.size() - 1 - ago);
        return new int[] {r.night, r.person, r.kind, r.place}[what];
    }

    public int seed(int n) {
        int was = w.seed;
        w.seed = n;
        return was;
    }

    public boolean undo() {
        if (past.isEmpty()) {
            return false;
        }
        w = past.removeLast();
        return true;
    }

    public void image() {
        kept = w.copy();
    }

    public boolean back() {
        if (kept == null) {
            return false;
        }
        w = kept.copy();
        past.clear();
        return true;
    }

    public int count(int what) {
        return switch (what) {
            case 0 -> w.people.size();
            case 1 -> w.dishes.size();
            case 2 -> w.texts;
            case 3 -> w.law == null ? NONE : w.law.size();
            case 4 -> w.night;
            case 5 -> w.quota;
            case 6 -> w.walk;
            case 7 -> w.limit;
            case 8 -> w.iron;
            case 9 -> (1 << w.people.size()) - 1 - bits(living());
            case 10 -> votes(living());
            case 11 -> w.log.size();
            case 12 -> past.size();
            default -> NONE;
        };
    }
}
