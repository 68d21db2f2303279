import java.util.NoSuchElementException;

/** A table at which a ring of iron lies at the place of whoever is away, and what is set on it is eaten. */
public final class AbsentRings {
    public static final int NONE = -1;

    private static final int MOST_PEOPLE = 8;
    private static final int MOST_DISHES = 6;
    private static final int PLACES = 8;
    private static final int GATE = 0;
    private static final int ALL_SIDES = 256;
    private static final int MOST_TEXTS = 12;
    private static final int TAPE_BYTES = 400;
    private static final int FEED_BYTES = 20;
    private static final int MOST_VOTE = 20;
    private static final int MOST_COLD = 99;
    private static final int MOST_IRON = 9999;
    private static final int MOST_NIGHT = 9999;
    private static final int MOST_NIGHTS = 60;
    private static final int MOST_ODDS_NIGHTS = 4;
    private static final int SPAN_SEEDS = 6;
    private static final int LOG_ROWS = 60;
    private static final int REMEMBERED = 12;
    private static final int NO_ROW = -2;

    private static final int RING_SET = 0;
    private static final int RING_OFF = 1;
    private static final int RING_CLEARED = 2;
    private static final int RING_COLD = 3;

    private static final int SOON_NEVER = 20;

    private final Tape tape = new Tape();
    private final House house = new House();
    private final Law law = new Law();
    private final Table table = new Table();
    /** What is tried out here never comes back to the table, but for a text that was right. */
    private final Table scratch = new Table();
    private final HouseText houseText = new HouseText(tape, scratch);
    private final LawText lawText = new LawText(tape);
    private final Kitchen kitchen = new Kitchen(house, law);
    private final Sides sides = new Sides(house, table);
    private final Vows vows = new Vows(tape, house, table);
    private final Tracks tracks = new Tracks(tape, house);
    private final House imageHouse = new House();
    private final Law imageLaw = new Law();
    private final Table imageTable = new Table();
    private final Table[] past = new Table[REMEMBERED];
    private boolean imageKept;
    private int pastCount;
    private int pastNewest;
    private int wrongByte = NONE;

    public AbsentRings() {
        for (int i = 0; i < REMEMBERED; i++) {
            past[i] = new Table();
        }
    }

    public int feed(int a, int b, int c, int d, int e) {
        if (tape.length + FEED_BYTES > TAPE_BYTES) {
            return NONE;
        }
        tape.put(a);
        tape.put(b);
        tape.put(c);
        tape.put(d);
        tape.put(e);
        return tape.length;
    }

    public boolean end(int n) {
        if (n < 0 || n > tape.length) {
            return false;
        }
        tape.length = n;
        return true;
    }

    public int house() throws IllegalArgumentException, UnsupportedOperationException {
        houseText.startFrom(house, table);
        boolean right = houseText.readLines(HouseText.MOST_LINES);
        wrongByte = houseText.wrong;
        if (!right) {
            throw new IllegalArgumentException("the text of the house is wrong");
        }
        if (house.texts >= MOST_TEXTS) {
            throw new UnsupportedOperationException("there are twelve texts");
        }
        house.copy(houseText.draft);
        house.texts++;
        table.copy(scratch);
        pastCount = 0;
        return house.texts;
    }

    public int law() throws IllegalArgumentException {
        lawText.startAnew();
        boolean right = lawText.readLines(Law.MOST_LINES);
        wrongByte = lawText.wrong;
        if (!right) {
            throw new IllegalArgumentException("the text of the law is wrong");
        }
        law.copy(lawText.draft);
        pastCount = 0;
        return law.lines;
    }

    public int fault() {
        return wrongByte;
    }

    public int person(int person, int what) throws IndexOutOfBoundsException, NoSuchElementException {
        needPerson(person);
        switch (what) {
            case 0:
                return table.place[person];
            case 1:
                return table.vote[person];
            case 2:
                return house.weight[person];
            case 3:
                return house.legs[person];
            case 4:
                return table.promised[person];
            case 5:
                return table.isDead(person) ? 1 : 0;
            case 6:
                return table.cold[person];
            case 7:
                return table.isAway(person) && kitchen.mayBeOff(table, person) ? 1 : 0;
            case 8:
                return sides.shareOf(person);
            case 9:
                return soonOf(person);
            default:
                throw new NoSuchElementException("a person has nothing of that number");
        }
    }

    public int eaten(int dish, int place) throws IndexOutOfBoundsException {
        needDish(dish);
        needPlace(place);
        return house.eatenAt(dish, place);
    }

    public int eats(int person, int place, int dish) throws IndexOutOfBoundsException {
        needPerson(person);
        needPlace(place);
        needDish(dish);
        return kitchen.eatenBy(table, person, place, dish);
    }

    public boolean road(int place, int other) throws IndexOutOfBoundsException, IllegalArgumentException {
        needPlace(place);
        needPlace(other);
        needTwo(place, other);
        return has(house.roads[place], other);
    }

    public int leave(int person) throws IndexOutOfBoundsException, IllegalStateException {
        needPerson(person);
        int weight = house.weight[person];
        if (table.place[person] != NONE || table.isDead(person) || table.iron < weight) {
            throw new IllegalStateException("it cannot go away");
        }
        remember();
        table.place[person] = GATE;
        table.iron -= weight;
        table.note(person, RING_SET, GATE);
        return table.iron;
    }

    public int home(int person) throws IndexOutOfBoundsException, IllegalStateException {
        needPerson(person);
        if (!table.isAway(person) || table.place[person] != GATE) {
            throw new IllegalStateException("it is not away at the gate");
        }
        remember();
        table.note(person, RING_CLEARED, GATE);
        table.bringHome(person);
        table.addIron(house.weight[person]);
        return table.iron;
    }

    public int serve(int dish) throws IndexOutOfBoundsException {
        needDish(dish);
        remember();
        return kitchen.passNight(table, dish, true);
    }

    public int off(int person) throws IndexOutOfBoundsException, IllegalStateException {
        needPerson(person);
        if (!table.isAway(person) || !kitchen.mayBeOff(table, person)) {
            throw new IllegalStateException("its ring may not be taken off");
        }
        remember();
        table.dead |= 1 << person;
        table.addIron(house.weight[person]);
        table.note(person, RING_OFF, table.place[person]);
        return table.iron;
    }

    public int rise(int person) throws IndexOutOfBoundsException, IllegalStateException {
        needPerson(person);
        if (!table.isDead(person)) {
            throw new IllegalStateException("it is not held to be dead");
        }
        remember();
        int place = table.place[person];
        table.note(person, RING_CLEARED, place);
        table.dead &= ~(1 << person);
        table.bringHome(person);
        return place;
    }

    public int vote(int person, int n) throws IndexOutOfBoundsException, IllegalArgumentException {
        needPerson(person);
        needWithin(n, 0, MOST_VOTE);
        remember();
        int before = table.vote[person];
        table.vote[person] = n;
        return before;
    }

    public int promise(int person, int other) throws IndexOutOfBoundsException, IllegalArgumentException {
        needPerson(person);
        if (other != NONE) {
            needPerson(other);
        }
        needTwo(person, other);
        remember();
        int before = table.promised[person];
        table.promised[person] = other;
        return before;
    }

    public int nights(int n) throws IllegalArgumentException {
        needWithin(n, 1, MOST_NIGHTS);
        remember();
        return kitchen.passNights(table, n, true);
    }

    public int far(int place, int other) throws IndexOutOfBoundsException {
        needPlace(place);
        needPlace(other);
        return house.distance(place, other);
    }

    public int meet(int person, int other) throws IndexOutOfBoundsException, IllegalArgumentException {
        needPerson(person);
        needPerson(other);
        needTwo(person, other);
        if (!table.isAway(person) || !table.isAway(other)) {
            return NONE;
        }
        int roads = house.distance(table.place[person], table.place[other]);
        return roads == NONE ? NONE : (roads + 1) / 2;
    }

    public int where(boolean paths) throws IllegalArgumentException {
        needTracks();
        return paths ? tracks.pathCount() : tracks.placeBits();
    }

    public int likely() throws IllegalArgumentException {
        needTracks();
        return tracks.likeliest();
    }

    public int next() throws IllegalArgumentException {
        needTracks();
        return tracks.partingDish();
    }

    public int apart() {
        return house.fewestApart();
    }

    public int like(int dish) throws IndexOutOfBoundsException {
        needDish(dish);
        return house.pairsAlike(1 << dish);
    }

    public int lying(int person) throws IndexOutOfBoundsException, IllegalArgumentException, IllegalStateException {
        int told = tape.useUp();
        needPerson(person);
        if (told != house.dishes || !tape.isWithin(told, MOST_COLD)) {
            throw new IllegalArgumentException("the tape is not a byte for each dish");
        }
        needAway(person);
        int differing = 0;
        for (int dish = 0; dish < house.dishes; dish++) {
            if (tape.bytes[dish] != kitchen.eatenBy(table, person, table.place[person], dish)) {
                differing++;
            }
        }
        return differing > 0 && house.legs[person] == House.FOUR_LEGS ? NONE : differing;
    }

    public boolean wins(int side) {
        return sides.isWinning(side);
    }

    public int needed() {
        return sides.inEachWinning();
    }

    public int swings(int person) throws IndexOutOfBoundsException {
        needPerson(person);
        sides.tally();
        return sides.swingsOf(person);
    }

    public int pivots(int person) throws IndexOutOfBoundsException {
        needPerson(person);
        sides.tally();
        return sides.pivotsOf(person);
    }

    public int side() {
        return sides.leastWinning(false);
    }

    public int minimal() {
        return sides.minimalCount();
    }

    public int dummies() {
        return sides.swinglessBits();
    }

    public boolean blocks(int side) {
        return !sides.isWinning(~side);
    }

    public int split(int person) throws IndexOutOfBoundsException {
        needPerson(person);
        sides.divide();
        return sides.part[person];
    }

    public int leaves() {
        return sides.leastWinning(true);
    }

    public int brides(int person) throws IndexOutOfBoundsException, IllegalArgumentException {
        int told = tape.useUp();
        if (person != NONE) {
            needPerson(person);
        }
        needKeen(told);
        vows.weigh();
        return person == NONE ? vows.mostKeenness() : vows.mateOf(person);
    }

    public int rather() throws IllegalArgumentException {
        needKeen(tape.useUp());
        return vows.ratherPairs();
    }

    public boolean circle(int person) throws IndexOutOfBoundsException {
        needPerson(person);
        return vows.comesBack(person);
    }

    public int pairs() {
        return vows.truePairs();
    }

    public int jilts() {
        return vows.jiltBits();
    }

    public int heir(int person) throws IndexOutOfBoundsException {
        needPerson(person);
        return vows.firstLivingTo(person);
    }

    public int chairs() {
        int count = 0;
        for (int p = 0; p < house.people; p++) {
            if (table.isAtHome(p)) {
                count++;
            }
        }
        return count;
    }

    public int empty() {
        int bits = 0;
        for (int p = 0; p < house.people; p++) {
            if (table.isAway(p)) {
                bits |= 1 << p;
            }
        }
        return bits;
    }

    public int lasts() {
        int iron = table.iron;
        int count = 0;
        for (int p = 0; p < house.people; p++) {
            if (!table.isAtHome(p)) {
                continue;
            }
            iron -= house.weight[p];
            if (iron < 0) {
                break;
            }
            count++;
        }
        return count;
    }

    public int heaviest() {
        return mostOfAway(house.weight);
    }

    public int odds(int person, int n, int place)
            throws IndexOutOfBoundsException, IllegalArgumentException, IllegalStateException {
        needPerson(person);
        needPlace(place);
        needWithin(n, 0, MOST_ODDS_NIGHTS);
        needAway(person);
        return tracks.oddsOf(table.place[person], n, place);
    }

    public int rests(int person) throws IndexOutOfBoundsException, IllegalStateException {
        needPerson(person);
        needAway(person);
        if (house.dishes == 0) {
            return NONE;
        }
        int soon = soonOf(person);
        int back = 9 - (soon == NONE ? SOON_NEVER : soon);
        int served = kitchen.eatenBy(table, person, table.place[person], 0);
        int bits = 0;
        for (int choices = 0; choices < 4; choices++) {
            int own = choices / 2;
            int cook = choices % 2;
            boolean stays = oneHas(own, cook, back, table.vote[person], served)
                    >= oneHas(1 - own, cook, back, table.vote[person], served);
            if (stays && cookHas(own, cook) >= cookHas(own, 1 - cook)) {
                bits |= 1 << choices;
            }
        }
        return bits;
    }

    public int coldest() {
        return mostOfAway(table.cold);
    }

    public int starves(int person) throws IndexOutOfBoundsException {
        needPerson(person);
        if (!table.isAway(person)) {
            return NONE;
        }
        scratch.copy(table);
        for (int n = 1; n <= MOST_NIGHTS; n++) {
            kitchen.passNights(scratch, 1, false);
            if (kitchen.mayBeOff(scratch, person)) {
                return n;
            }
        }
        return NONE;
    }

    public int alike() {
        int count = 0;
        for (int p = 0; p < house.people; p++) {
            for (int q = p + 1; q < house.people; q++) {
                if (table.vote[p] == table.vote[q] && house.weight[p] == house.weight[q]
                        && house.legs[p] == house.legs[q]) {
                    count++;
                }
            }
        }
        return count;
    }

    public int fills(int dish) throws IndexOutOfBoundsException {
        needDish(dish);
        int sum = 0;
        for (int p = 0; p < house.people; p++) {
            if (table.isAway(p)) {
                sum += kitchen.eatenBy(table, p, table.place[p], dish);
            }
        }
        return sum;
    }

    public int ahead(int person, int n) throws IndexOutOfBoundsException, IllegalArgumentException {
        needPerson(person);
        needWithin(n, 0, MOST_NIGHTS);
        scratch.copy(table);
        kitchen.passNights(scratch, n, false);
        return scratch.cold[person];
    }

    public int trial(int n, boolean cold) throws IllegalArgumentException {
        needWithin(n, 0, MOST_NIGHTS);
        scratch.copy(table);
        kitchen.passNights(scratch, n, true);
        return cold ? kitchen.coldBits(scratch) : kitchen.atGate(scratch);
    }

    public int span(int n, boolean most) throws IllegalArgumentException {
        needWithin(n, 0, MOST_NIGHTS);
        int found = NONE;
        for (int start = 1; start <= SPAN_SEEDS; start++) {
            scratch.copy(table);
            scratch.seed = start;
            kitchen.passNights(scratch, n, true);
            int sum = kitchen.coldSum(scratch);
            if (found == NONE || (most ? sum > found : sum < found)) {
                found = sum;
            }
        }
        return found;
    }

    public int led(int person, boolean night) throws IndexOutOfBoundsException {
        needPerson(person);
        return night ? table.latestNightOf(person) : table.rowsOf(person);
    }

    public int log(int ago, int what) throws NoSuchElementException {
        if (what < 0 || what > 3) {
            throw new NoSuchElementException("a row of the log has nothing of that number");
        }
        return table.logged(ago, what);
    }

    public int seed(int n) {
        int before = table.seed;
        table.seed = n;
        return before;
    }

    public boolean undo() {
        if (pastCount == 0) {
            return false;
        }
        table.copy(past[pastNewest]);
        pastNewest = (pastNewest + REMEMBERED - 1) % REMEMBERED;
        pastCount--;
        return true;
    }

    public void image() {
        imageHouse.copy(house);
        imageLaw.copy(law);
        imageTable.copy(table);
        imageKept = true;
    }

    public boolean back() {
        if (!imageKept) {
            return false;
        }
        house.copy(imageHouse);
        law.copy(imageLaw);
        table.copy(imageTable);
        pastCount = 0;
        return true;
    }

    public int count(int what) {
        switch (what) {
            case 0:
                return house.people;
            case 1:
                return house.dishes;
            case 2:
                return house.texts;
            case 3:
                return law.lines;
            case 4:
                return table.night;
            case 5:
                return house.quota;
            case 6:
                return house.walk;
            case 7:
                return house.limit;
            case 8:
                return table.iron;
            case 9:
                return table.dead;
            case 10:
                return sides.votesOf(sides.everyone());
            case 11:
                return table.rowCount;
            case 12:
                return pastCount;
            default:
                return NONE;
        }
    }

    private static boolean has(int set, int member) {
        return (set >> member & 1) != 0;
    }

    private void needPerson(int person) {
        if (person < 0 || person >= house.people) {
            throw new IndexOutOfBoundsException("there is no such person");
        }
    }

    private void needPlace(int place) {
        if (place < 0 || place >= PLACES) {
            throw new IndexOutOfBoundsException("there is no such place");
        }
    }

    private void needDish(int dish) {
        if (dish < 0 || dish >= house.dishes) {
            throw new IndexOutOfBoundsException("there is no such dish");
        }
    }

    private void needTwo(int one, int other) {
        if (one == other) {
            throw new IllegalArgumentException("both are one");
        }
    }

    private void needWithin(int n, int least, int most) {
        if (n < least || n > most) {
            throw new IllegalArgumentException("the number is none");
        }
    }

    private void needAway(int person) {
        if (!table.isAway(person)) {
            throw new IllegalStateException("that one is not away");
        }
    }

    private void needTracks() {
        if (!tracks.follow(tape.useUp())) {
            throw new IllegalArgumentException("the tape is not rows of a dish and how much");
        }
    }

    private void needKeen(int told) {
        if (!vows.isKeen(told)) {
            throw new IllegalArgumentException("the tape is not figures of how keen all are");
        }
    }

    private void remember() {
        pastNewest = (pastNewest + 1) % REMEMBERED;
        past[pastNewest].copy(table);
        if (pastCount < REMEMBERED) {
            pastCount++;
        }
    }

    private int soonOf(int person) {
        if (table.isDead(person)) {
            return NONE;
        }
        if (table.isAtHome(person)) {
            return 0;
        }
        int roads = house.distance(table.place[person], GATE);
        return roads == NONE ? NONE : roads + 1;
    }

    /** What is served is eaten of both who turns back and who goes on. */
    private static int oneHas(int own, int cook, int back, int on, int served) {
        return (own == 0 ? back : on) + (cook == 0 ? served : 0);
    }

    private static int cookHas(int own, int cook) {
        if (cook == 0) {
            return own == 0 ? 4 : -3;
        }
        return own == 0 ? -1 : 0;
    }

    private int mostOfAway(int[] amount) {
        int found = NONE;
        for (int p = 0; p < house.people; p++) {
            if (table.isAway(p) && (found == NONE || amount[p] > amount[found])) {
                found = p;
            }
        }
        return found;
    }

    /** The bytes that were fed; what was used up stays readable till the next bytes come. */
    private static final class Tape {
        final int[] bytes = new int[TAPE_BYTES];
        int length;

        void put(int number) {
            for (int shift = 24; shift >= 0; shift -= 8) {
                if (length < TAPE_BYTES) {
                    bytes[length] = number >>> shift & 255;
                    length++;
                }
            }
        }

        int useUp() {
            int told = length;
            length = 0;
            return told;
        }

        boolean isWithin(int told, int most) {
            for (int i = 0; i < told && i < TAPE_BYTES; i++) {
                if (bytes[i] > most) {
                    return false;
                }
            }
            return true;
        }
    }

    /** A text on the tape, read thing by thing; the first wrong byte ends the reading. */
    private abstract static class Text {
        final Tape tape;
        int wrong = NONE;
        /** Of the thing that comes next: where it begins (the text's length without one), and behind it. */
        int from;
        int behind;
        private int end;

        Text(Tape tape) {
            this.tape = tape;
        }

        abstract boolean readLine();

        final boolean readLines(int most) {
            if (isOver()) {
                return true;
            }
            for (int line = 0; line < most; line++) {
                if (!readLine()) {
                    return false;
                }
                if (isOver()) {
                    return true;
                }
                if (!takesSign(';')) {
                    return wrongAt(from);
                }
            }
            return wrongAt(from);
        }

        final void useTape() {
            end = tape.useUp();
            wrong = NONE;
            behind = 0;
            advance();
        }

        final void advance() {
            int i = behind;
            while (i < end && tape.bytes[i] == ' ') {
                i++;
            }
            from = i;
            while (i < end && tape.bytes[i] >= 'a' && tape.bytes[i] <= 'z') {
                i++;
            }
            if (i == from) {
                while (i < end && tape.bytes[i] >= '0' && tape.bytes[i] <= '9') {
                    i++;
                }
            }
            behind = i == from && i < end ? i + 1 : i;
        }

        final boolean isOver() {
            return from >= end;
        }

        final boolean wrongAt(int place) {
            wrong = place;
            return false;
        }

        final boolean takesSign(char sign) {
            if (from >= end || tape.bytes[from] != sign) {
                return false;
            }
            advance();
            return true;
        }

        final boolean isWord(String word) {
            if (behind - from != word.length()) {
                return false;
            }
            for (int i = from; i < behind; i++) {
                if (tape.bytes[i] != word.charAt(i - from)) {
                    return false;
                }
            }
            return true;
        }

        final boolean takesWord(String word) {
            if (!isWord(word)) {
                return false;
            }
            advance();
            return true;
        }

        final int digits() {
            boolean figures = from < end && tape.bytes[from] >= '0' && tape.bytes[from] <= '9';
            return figures ? behind - from : 0;
        }

        /** NONE, and a wrong byte, if no number of these bounds comes. */
        final int takeNumber(int least, int most) {
            int many = digits();
            int number = 0;
            for (int i = 0; i < many && i < 3; i++) {
                number = number * 10 + tape.bytes[from + i] - '0';
            }
            if (many < 1 || many > 3 || number < least || number > most) {
                wrong = from;
                return NONE;
            }
            advance();
            return number;
        }
    }

    /** Reads THE HOUSE into a draft, so that nothing stays of a wrong text. */
    private static final class HouseText extends Text {
        static final int MOST_LINES = 14;

        final House draft = new House();
        private final Table table;

        HouseText(Tape tape, Table table) {
            super(tape);
            this.table = table;
        }

        void startFrom(House house, Table before) {
            useTape();
            draft.copy(house);
            table.copy(before);
        }

        boolean readLine() {
            int start = from;
            if (takesWord("person")) {
                return draft.people < MOST_PEOPLE ? readPerson() : wrongAt(start);
            }
            if (takesWord("dish")) {
                return draft.dishes < MOST_DISHES ? readDish() : wrongAt(start);
            }
            if (takesWord("road")) {
                return readRoad();
            }
            if (takesWord("promise")) {
                return readPromise();
            }
            return readSetting();
        }

        private boolean readPerson() {
            if (!takesWord("weight")) {
                return wrongAt(from);
            }
            int weight = takeNumber(1, 99);
            int place = takeTold("at", 0, PLACES - 1, NONE);
            int votes = takeTold("vote", 0, MOST_VOTE, 1);
            int legs = takeTold("legs", House.THREE_LEGS, House.FOUR_LEGS, House.FOUR_LEGS);
            int person = draft.people;
            if (wrong != NONE || person >= MOST_PEOPLE) {
                return false;
            }
            draft.weight[person] = weight;
            draft.legs[person] = legs;
            draft.people++;
            table.settle(person, place, votes);
            return true;
        }

        private int takeTold(String word, int least, int most, int otherwise) {
            return wrong == NONE && takesWord(word) ? takeNumber(least, most) : otherwise;
        }

        private boolean readDish() {
            if (digits() != PLACES) {
                return wrongAt(from);
            }
            for (int place = 0; place < PLACES; place++) {
                draft.eaten[draft.dishes * PLACES + place] = tape.bytes[from + place] - '0';
            }
            draft.dishes++;
            advance();
            return true;
        }

        private boolean readRoad() {
            int place = takeNumber(0, PLACES - 1);
            int other = place == NONE ? NONE : takeOther(place, PLACES);
            if (other == NONE) {
                return false;
            }
            draft.roads[place] |= 1 << other;
            draft.roads[other] |= 1 << place;
            return true;
        }

        private boolean readPromise() {
            int person = takeNumber(0, draft.people - 1);
            int other = person == NONE ? NONE : takeOther(person, draft.people);
            if (other == NONE) {
                return false;
            }
            table.promised[person] = other;
            return true;
        }

        private int takeOther(int first, int many) {
            int start = from;
            int other = takeNumber(0, many - 1);
            if (other == first) {
                wrong = start;
                return NONE;
            }
            return other;
        }

        private boolean readSetting() {
            if (takesWord("quota")) {
                draft.quota = takeNumber(0, 160);
            } else if (takesWord("walk")) {
                draft.walk = takeNumber(0, 100);
            } else if (takesWord("limit")) {
                draft.limit = takeNumber(1, 99);
            } else if (takesWord("iron")) {
                table.iron = takeNumber(0, 999);
            } else if (takesWord("night")) {
                table.night = takeNumber(0, 999);
            } else {
                return wrongAt(from);
            }
            return wrong == NONE;
        }
    }

    /** Reads THE LAW into a draft: conditions as code in which what is joined stands ahead of what joins it. */
    private static final class LawText extends Text {
        private static final int DEEPEST = 6;

        final Law draft = new Law();

        LawText(Tape tape) {
            super(tape);
        }

        void startAnew() {
            useTape();
            draft.clear();
        }

        boolean readLine() {
            int kind;
            if (takesWord("more")) {
                kind = Law.MORE;
            } else if (takesWord("less")) {
                kind = Law.LESS;
            } else if (takesWord("off")) {
                kind = Law.OFF;
            } else {
                return wrongAt(from);
            }
            int amount = kind == Law.OFF ? 0 : takeNumber(0, 30);
            if (amount == NONE) {
                return false;
            }
            draft.open(kind, amount);
            if (takesWord("if") && !readCondition(0)) {
                return false;
            }
            draft.close();
            return true;
        }

        private boolean readCondition(int depth) {
            boolean joins = false;
            for (int any = 0; any < TAPE_BYTES && (!joins || takesWord("or")); any++) {
                if (!readAtom(depth)) {
                    return false;
                }
                for (int all = 0; all < TAPE_BYTES && takesWord("and"); all++) {
                    if (!readAtom(depth) || !draft.emit(Law.AND)) {
                        return false;
                    }
                }
                if (joins && !draft.emit(Law.OR)) {
                    return false;
                }
                joins = true;
            }
            return true;
        }

        private boolean readAtom(int depth) {
            int start = from;
            boolean opens = takesSign('(');
            if (opens || takesWord("not")) {
                if (depth >= DEEPEST) {
                    return wrongAt(start);
                }
                if (opens) {
                    return readCondition(depth + 1) && (takesSign(')') || wrongAt(from));
                }
                return readAtom(depth + 1) && draft.emit(Law.NOT);
            }
            if (takesWord("promised")) {
                return draft.emit(Law.FACTS + Law.PROMISED);
            }
            if (takesWord("three")) {
                return draft.emit(Law.FACTS + Law.THREE);
            }
            if (!readSum()) {
                return false;
            }
            boolean below = takesSign('<');
            if (!below && !takesSign('>')) {
                return wrongAt(from);
            }
            return readSum() && draft.emit(below ? Law.BELOW : Law.ABOVE);
        }

        private boolean readSum() {
            boolean joins = false;
            for (int i = 0; i < TAPE_BYTES && (!joins || takesSign('+')); i++) {
                int part = factHere();
                if (part == NONE) {
                    part = takeNumber(0, 999);
                } else {
                    advance();
                }
                if (part == NONE || !draft.emit(part) || joins && !draft.emit(Law.PLUS)) {
                    return false;
                }
                joins = true;
            }
            return true;
        }

        private int factHere() {
            if (isWord("person")) {
                return Law.FACTS + Law.PERSON;
            }
            if (isWord("place")) {
                return Law.FACTS + Law.PLACE;
            }
            if (isWord("dish")) {
                return Law.FACTS + Law.DISH;
            }
            if (isWord("cold")) {
                return Law.FACTS + Law.COLD;
            }
            if (isWord("vote")) {
                return Law.FACTS + Law.VOTE;
            }
            if (isWord("weight")) {
                return Law.FACTS + Law.WEIGHT;
            }
            return isWord("night") ? Law.FACTS + Law.NIGHT : NONE;
        }
    }

    /** What texts of THE HOUSE alone can change: acts leave it as it is. */
    private static final class House {
        static final int THREE_LEGS = 3;
        static final int FOUR_LEGS = 4;

        final int[] weight = new int[MOST_PEOPLE];
        final int[] legs = new int[MOST_PEOPLE];
        final int[] eaten = new int[MOST_DISHES * PLACES];
        /** Of each place those to which a road leads, as bits. */
        final int[] roads = new int[PLACES];
        int people;
        int dishes;
        int texts;
        int quota = 1;
        int walk = 50;
        int limit = 9;

        void copy(House other) {
            System.arraycopy(other.weight, 0, weight, 0, MOST_PEOPLE);
            System.arraycopy(other.legs, 0, legs, 0, MOST_PEOPLE);
            System.arraycopy(other.eaten, 0, eaten, 0, MOST_DISHES * PLACES);
            System.arraycopy(other.roads, 0, roads, 0, PLACES);
            people = other.people;
            dishes = other.dishes;
            texts = other.texts;
            quota = other.quota;
            walk = other.walk;
            limit = other.limit;
        }

        int eatenAt(int dish, int place) {
            return eaten[dish * PLACES + place];
        }

        /** Where one from these places can be, who stays or goes by one road. */
        int reach(int places) {
            int reached = places;
            for (int place = 0; place < PLACES; place++) {
                if (has(places, place)) {
                    reached |= roads[place];
                }
            }
            return reached;
        }

        int distance(int from, int to) {
            int reached = 1 << from;
            for (int gone = 0; gone < PLACES; gone++) {
                if (has(reached, to)) {
                    return gone;
                }
                reached = reach(reached);
            }
            return NONE;
        }

        /** How many pairs of places no dish of a set tells apart. */
        int pairsAlike(int set) {
            int count = 0;
            for (int place = 0; place < PLACES; place++) {
                for (int other = place + 1; other < PLACES; other++) {
                    if (areAlike(set, place, other)) {
                        count++;
                    }
                }
            }
            return count;
        }

        private boolean areAlike(int set, int place, int other) {
            for (int dish = 0; dish < dishes; dish++) {
                if (has(set, dish) && eatenAt(dish, place) != eatenAt(dish, other)) {
                    return false;
                }
            }
            return true;
        }

        int fewestApart() {
            int found = NONE;
            for (int set = 1; set < 1 << dishes; set++) {
                boolean fewer = found == NONE || Integer.bitCount(set) < Integer.bitCount(found);
                if (fewer && pairsAlike(set) == 0) {
                    found = set;
                }
            }
            return found;
        }
    }

    /** THE LAW; a line without a condition has no code, and holds. */
    private static final class Law {
        static final int MOST_LINES = 12;
        static final int MORE = 0;
        static final int LESS = 1;
        static final int OFF = 2;

        static final int PERSON = 0;
        static final int PLACE = 1;
        static final int DISH = 2;
        static final int COLD = 3;
        static final int VOTE = 4;
        static final int WEIGHT = 5;
        static final int NIGHT = 6;
        static final int PROMISED = 7;
        static final int THREE = 8;
        private static final int FACT_COUNT = 9;

        /** Code below this is a number of the text itself. */
        static final int FACTS = 1000;
        static final int PLUS = 2000;
        static final int BELOW = 2001;
        static final int ABOVE = 2002;
        static final int NOT = 2003;
        static final int AND = 2004;
        static final int OR = 2005;

        /** Seven levels hold two conditions each at most, and the last one three numbers. */
        private static final int STACK = 24;

        private final int[] kind = new int[MOST_LINES];
        private final int[] amount = new int[MOST_LINES];
        private final int[] from = new int[MOST_LINES];
        private final int[] behind = new int[MOST_LINES];
        private final int[] code = new int[TAPE_BYTES];
        private final int[] fact = new int[FACT_COUNT];
        private final int[] stack = new int[STACK];
        int lines = NONE;
        private int size;

        void copy(Law other) {
            System.arraycopy(other.kind, 0, kind, 0, MOST_LINES);
            System.arraycopy(other.amount, 0, amount, 0, MOST_LINES);
            System.arraycopy(other.from, 0, from, 0, MOST_LINES);
            System.arraycopy(other.behind, 0, behind, 0, MOST_LINES);
            System.arraycopy(other.code, 0, code, 0, TAPE_BYTES);
            lines = other.lines;
            size = other.size;
        }

        void clear() {
            lines = 0;
            size = 0;
        }

        void open(int lineKind, int lineAmount) {
            if (lines >= 0 && lines < MOST_LINES) {
                kind[lines] = lineKind;
                amount[lines] = lineAmount;
                from[lines] = size;
            }
        }

        void close() {
            if (lines >= 0 && lines < MOST_LINES) {
                behind[lines] = size;
                lines++;
            }
        }

        boolean emit(int step) {
            if (size >= TAPE_BYTES) {
                return false;
            }
            code[size] = step;
            size++;
            return true;
        }

        void tell(int which, int value) {
            if (which >= 0 && which < FACT_COUNT) {
                fact[which] = value;
            }
        }

        /** By how much more is eaten than without the law, of what was told. */
        int moreEaten() {
            int sum = 0;
            for (int line = 0; line < lines; line++) {
                if (kind[line] != OFF && holds(line)) {
                    sum += kind[line] == MORE ? amount[line] : -amount[line];
                }
            }
            return sum;
        }

        boolean hasOff() {
            for (int line = 0; line < lines; line++) {
                if (kind[line] == OFF) {
                    return true;
                }
            }
            return false;
        }

        boolean someOffHolds() {
            for (int line = 0; line < lines; line++) {
                if (kind[line] == OFF && holds(line)) {
                    return true;
                }
            }
            return false;
        }

        private boolean holds(int line) {
            int top = 0;
            for (int i = from[line]; i < behind[line]; i++) {
                int step = code[i];
                if (step < PLUS) {
                    if (top < STACK) {
                        stack[top] = step < FACTS ? step : fact[step - FACTS];
                        top++;
                    }
                } else if (step == NOT) {
                    if (top > 0) {
                        stack[top - 1] = 1 - stack[top - 1];
                    }
                } else if (top > 1) {
                    top--;
                    stack[top - 1] = joined(step, stack[top - 1], stack[top]);
                }
            }
            return top == 0 || stack[0] != 0;
        }

        private static int joined(int step, int left, int right) {
            switch (step) {
                case PLUS:
                    return left + right;
                case BELOW:
                    return left < right ? 1 : 0;
                case ABOVE:
                    return left > right ? 1 : 0;
                case AND:
                    return left & right;
                default:
                    return left | right;
            }
        }
    }

    /** What acts can change, with THE LOG. */
    private static final class Table {
        final int[] place = new int[MOST_PEOPLE];
        final int[] vote = new int[MOST_PEOPLE];
        final int[] promised = new int[MOST_PEOPLE];
        final int[] cold = new int[MOST_PEOPLE];
        /** Rows in a ring, each in one number, so that a remembered act costs little room. */
        private final int[] rows = new int[LOG_ROWS];
        private int newestRow;
        int rowCount;
        int dead;
        int iron = 100;
        int night;
        int seed = 1;

        void copy(Table other) {
            System.arraycopy(other.place, 0, place, 0, MOST_PEOPLE);
            System.arraycopy(other.vote, 0, vote, 0, MOST_PEOPLE);
            System.arraycopy(other.promised, 0, promised, 0, MOST_PEOPLE);
            System.arraycopy(other.cold, 0, cold, 0, MOST_PEOPLE);
            System.arraycopy(other.rows, 0, rows, 0, LOG_ROWS);
            newestRow = other.newestRow;
            rowCount = other.rowCount;
            dead = other.dead;
            iron = other.iron;
            night = other.night;
            seed = other.seed;
        }

        void settle(int person, int where, int votes) {
            place[person] = where;
            vote[person] = votes;
            promised[person] = NONE;
            cold[person] = 0;
        }

        boolean isDead(int person) {
            return has(dead, person);
        }

        boolean isAtHome(int person) {
            return place[person] == NONE;
        }

        boolean isAway(int person) {
            return place[person] != NONE && !has(dead, person);
        }

        void bringHome(int person) {
            place[person] = NONE;
            cold[person] = 0;
        }

        void addIron(int weight) {
            iron = Math.min(MOST_IRON, iron + weight);
        }

        int draw() {
            seed = 1103515245 * seed + 12345;
            return seed >>> 16 & 32767;
        }

        void note(int person, int kind, int where) {
            newestRow = (newestRow + 1) % LOG_ROWS;
            rows[newestRow] = night << 8 | person << 5 | kind << 3 | where;
            if (rowCount < LOG_ROWS) {
                rowCount++;
            }
        }

        int logged(int ago, int what) {
            if (ago < 0 || ago >= rowCount) {
                return NO_ROW;
            }
            int row = rows[(newestRow + LOG_ROWS - ago) % LOG_ROWS];
            switch (what) {
                case 0:
                    return row >> 8;
                case 1:
                    return row >> 5 & 7;
                case 2:
                    return row >> 3 & 3;
                default:
                    return row & 7;
            }
        }

        int rowsOf(int person) {
            int count = 0;
            for (int ago = 0; ago < rowCount; ago++) {
                if (logged(ago, 1) == person) {
                    count++;
                }
            }
            return count;
        }

        int latestNightOf(int person) {
            for (int ago = 0; ago < rowCount; ago++) {
                if (logged(ago, 1) == person) {
                    return logged(ago, 0);
                }
            }
            return NONE;
        }
    }

    /** What is eaten by house and law, and nights of any table: the real one, or one tried out. */
    private static final class Kitchen {
        private final House house;
        private final Law law;

        Kitchen(House house, Law law) {
            this.house = house;
            this.law = law;
        }

        int eatenBy(Table table, int person, int place, int dish) {
            int eaten = house.eatenAt(dish, place);
            if (law.lines <= 0) {
                return eaten;
            }
            tellLaw(table, person, place, dish);
            return Math.max(0, eaten + law.moreEaten());
        }

        boolean mayBeOff(Table table, int person) {
            if (!law.hasOff()) {
                return table.cold[person] >= house.limit;
            }
            tellLaw(table, person, table.place[person], 0);
            return law.someOffHolds();
        }

        private void tellLaw(Table table, int person, int place, int dish) {
            law.tell(Law.PERSON, person);
            law.tell(Law.PLACE, place);
            law.tell(Law.DISH, dish);
            law.tell(Law.COLD, table.cold[person]);
            law.tell(Law.VOTE, table.vote[person]);
            law.tell(Law.WEIGHT, house.weight[person]);
            law.tell(Law.NIGHT, table.night);
            law.tell(Law.PROMISED, table.promised[person] == NONE ? 0 : 1);
            law.tell(Law.THREE, house.legs[person] == House.THREE_LEGS ? 1 : 0);
        }

        /** NIGHTS of no DISH told: how many rings lay cold on these, together. */
        int passNights(Table table, int n, boolean wandering) {
            int colds = 0;
            for (int i = 0; i < n; i++) {
                int dish = house.dishes == 0 ? NONE : table.night % house.dishes;
                colds += passNight(table, dish, wandering);
            }
            return colds;
        }

        int passNight(Table table, int dish, boolean wandering) {
            if (wandering) {
                wander(table);
            }
            int colds = dish == NONE ? 0 : eat(table, dish);
            table.night = Math.min(MOST_NIGHT, table.night + 1);
            return colds;
        }

        private void wander(Table table) {
            for (int p = 0; p < house.people; p++) {
                if (!table.isAway(p) || table.draw() % 100 >= house.walk) {
                    continue;
                }
                int roads = house.roads[table.place[p]];
                int many = Integer.bitCount(roads);
                if (many > 0) {
                    table.place[p] = memberOf(roads, table.draw() % many);
                }
            }
        }

        private static int memberOf(int set, int number) {
            int left = set;
            for (int i = 0; i < number; i++) {
                left &= left - 1;
            }
            return Integer.numberOfTrailingZeros(left);
        }

        private int eat(Table table, int dish) {
            int colds = 0;
            for (int p = 0; p < house.people; p++) {
                if (!table.isAway(p)) {
                    continue;
                }
                if (eatenBy(table, p, table.place[p], dish) == 0) {
                    colds++;
                    chill(table, p);
                } else {
                    table.cold[p] = 0;
                }
            }
            return colds;
        }

        private void chill(Table table, int person) {
            // Behind the 99th night the number stands still: it must not be noted as reached again.
            if (table.cold[person] >= MOST_COLD) {
                return;
            }
            table.cold[person]++;
            if (table.cold[person] == house.limit) {
                table.note(person, RING_COLD, table.place[person]);
            }
        }

        int atGate(Table table) {
            int count = 0;
            for (int p = 0; p < house.people; p++) {
                if (table.isAway(p) && table.place[p] == GATE) {
                    count++;
                }
            }
            return count;
        }

        int coldBits(Table table) {
            int bits = 0;
            for (int p = 0; p < house.people; p++) {
                if (table.isAway(p) && table.cold[p] >= house.limit) {
                    bits |= 1 << p;
                }
            }
            return bits;
        }

        int coldSum(Table table) {
            int sum = 0;
            for (int p = 0; p < house.people; p++) {
                if (table.isAway(p)) {
                    sum += table.cold[p];
                }
            }
            return sum;
        }
    }

    /** Sets of people who are not dead, by their votes. */
    private static final class Sides {
        private static final int[] ORDERS = {1, 1, 2, 6, 24, 120, 720, 5040, 40320};

        private final House house;
        private final Table table;
        private final int[] votes = new int[ALL_SIDES];
        private final int[] swing = new int[MOST_PEOPLE];
        final int[] part = new int[MOST_PEOPLE];

        Sides(House house, Table table) {
            this.house = house;
            this.table = table;
        }

        int everyone() {
            return (1 << house.people) - 1 & ~table.dead;
        }

        int votesOf(int side) {
            int sum = 0;
            for (int p = 0; p < house.people; p++) {
                if (has(side, p)) {
                    sum += table.vote[p];
                }
            }
            return sum;
        }

        boolean isWinning(int side) {
            return votesOf(side & everyone()) >= house.quota;
        }

        int shareOf(int person) {
            int all = votesOf(everyone());
            return all == 0 || table.isDead(person) ? 0 : table.vote[person] * 100 / all;
        }

        /** Votes of all sets of people: what is asked of many sides looks here. */
        void tally() {
            votes[0] = 0;
            for (int side = 1; side < 1 << house.people; side++) {
                int first = Integer.numberOfTrailingZeros(side);
                votes[side] = votes[side & side - 1] + table.vote[first];
            }
        }

        private boolean tallied(int side, int living) {
            return (side & ~living) == 0 && votes[side] >= house.quota;
        }

        int inEachWinning() {
            tally();
            int living = everyone();
            int common = living;
            for (int side = 0; side <= living; side++) {
                if (tallied(side, living)) {
                    common &= side;
                }
            }
            return common;
        }

        int swingsOf(int person) {
            int living = everyone();
            int count = 0;
            for (int side = 0; side <= living; side++) {
                if (has(side, person) && tallied(side, living)
                        && votes[side] - table.vote[person] < house.quota) {
                    count++;
                }
            }
            return count;
        }

        int pivotsOf(int person) {
            int living = everyone();
            int many = Integer.bitCount(living);
            int orders = 0;
            for (int side = 0; side <= living; side++) {
                if (has(side, person) && tallied(side, living)
                        && votes[side] - table.vote[person] < house.quota) {
                    int members = Integer.bitCount(side);
                    orders += ORDERS[members - 1] * ORDERS[many - members];
                }
            }
            return orders * 100 / ORDERS[many];
        }

        int minimalCount() {
            tally();
            int living = everyone();
            int count = 0;
            for (int side = 0; side <= living; side++) {
                if (tallied(side, living) && needsAll(side)) {
                    count++;
                }
            }
            return count;
        }

        private boolean needsAll(int side) {
            for (int p = 0; p < house.people; p++) {
                if (has(side, p) && votes[side] - table.vote[p] >= house.quota) {
                    return false;
                }
            }
            return true;
        }

        int swinglessBits() {
            tally();
            int bits = 0;
            for (int p = 0; p < house.people; p++) {
                if (!table.isDead(p) && swingsOf(p) == 0) {
                    bits |= 1 << p;
                }
            }
            return bits;
        }

        void divide() {
            tally();
            int all = 0;
            int most = 0;
            for (int p = 0; p < house.people; p++) {
                swing[p] = swingsOf(p);
                all += swing[p];
                if (swing[p] > swing[most]) {
                    most = p;
                }
            }
            int left = all == 0 ? 0 : 100;
            for (int p = 0; p < house.people; p++) {
                part[p] = all == 0 ? 0 : swing[p] * 100 / all;
                left -= part[p];
            }
            part[most] += left;
        }

        /** Fewest people first, then the least as bits; of all sides that win, or those that would leave. */
        int leastWinning(boolean leaving) {
            if (leaving) {
                divide();
            } else {
                tally();
            }
            int living = everyone();
            int all = votes[living];
            int found = NONE;
            for (int side = 0; side <= living; side++) {
                boolean fewer = found == NONE || Integer.bitCount(side) < Integer.bitCount(found);
                if (fewer && tallied(side, living) && (!leaving || wouldLeave(side, all))) {
                    found = side;
                }
            }
            return found;
        }

        private boolean wouldLeave(int side, int all) {
            int parts = 0;
            for (int p = 0; p < house.people; p++) {
                if (has(side, p)) {
                    parts += part[p];
                }
            }
            return all > 0 && parts < votes[side] * 100 / all;
        }
    }

    /** Promises, and how keen people are on one another. */
    private static final class Vows {
        private static final int KEENEST = 9;

        private final Tape tape;
        private final House house;
        private final Table table;
        /** Of each set of people the most keenness of all ways to promise within it. */
        private final int[] best = new int[ALL_SIDES];

        Vows(Tape tape, House house, Table table) {
            this.tape = tape;
            this.house = house;
            this.table = table;
        }

        boolean isKeen(int told) {
            int many = house.people;
            if (told != many * many) {
                return false;
            }
            for (int p = 0; p < many; p++) {
                for (int q = 0; q < many; q++) {
                    if (p != q && keenness(p, q) > KEENEST) {
                        return false;
                    }
                }
            }
            return true;
        }

        private int keenness(int person, int other) {
            return tape.bytes[person * house.people + other];
        }

        private int living() {
            return (1 << house.people) - 1 & ~table.dead;
        }

        private int bond(int person, int other) {
            int there = keenness(person, other);
            int back = keenness(other, person);
            return there > 0 && back > 0 ? there + back : 0;
        }

        void weigh() {
            best[0] = 0;
            for (int set = 1; set < 1 << house.people; set++) {
                int first = Integer.numberOfTrailingZeros(set);
                int rest = set & set - 1;
                int most = best[rest];
                for (int other = first + 1; other < house.people; other++) {
                    if (has(rest, other) && bond(first, other) > 0) {
                        most = Math.max(most, bond(first, other) + best[rest ^ 1 << other]);
                    }
                }
                best[set] = most;
            }
        }

        int mostKeenness() {
            return best[living()];
        }

        int mateOf(int person) {
            int left = living();
            for (int p = 0; p < house.people; p++) {
                if (!has(left, p)) {
                    continue;
                }
                int mate = firstMate(p, left);
                left &= ~(1 << p);
                if (p == person) {
                    return mate;
                }
                if (mate != NONE && mate == person) {
                    return p;
                }
                left = mate == NONE ? left : left & ~(1 << mate);
            }
            return NONE;
        }

        /** Of a set whose first one is this person: none, if nothing is lost by it, else the least mate. */
        private int firstMate(int person, int set) {
            int rest = set & ~(1 << person);
            if (best[rest] == best[set]) {
                return NONE;
            }
            for (int other = person + 1; other < house.people; other++) {
                if (has(rest, other) && bond(person, other) > 0
                        && bond(person, other) + best[rest ^ 1 << other] == best[set]) {
                    return other;
                }
            }
            return NONE;
        }

        int ratherPairs() {
            int living = living();
            int count = 0;
            for (int p = 0; p < house.people; p++) {
                for (int q = p + 1; q < house.people; q++) {
                    if (has(living, p) && has(living, q) && wouldRather(p, q) && wouldRather(q, p)) {
                        count++;
                    }
                }
            }
            return count;
        }

        private boolean wouldRather(int person, int other) {
            int now = isTrue(person) ? keenness(person, table.promised[person]) : 0;
            return keenness(person, other) > now;
        }

        private boolean isTrue(int person) {
            int to = table.promised[person];
            return to != NONE && table.promised[to] == person;
        }

        boolean comesBack(int person) {
            int at = table.promised[person];
            for (int gone = 0; gone < MOST_PEOPLE && at != NONE; gone++) {
                if (at == person) {
                    return true;
                }
                at = table.promised[at];
            }
            return false;
        }

        int truePairs() {
            int count = 0;
            for (int p = 0; p < house.people; p++) {
                if (isTrue(p) && table.promised[p] > p) {
                    count++;
                }
            }
            return count;
        }

        int jiltBits() {
            int bits = 0;
            for (int p = 0; p < house.people; p++) {
                int to = table.promised[p];
                if (to != NONE && table.promised[to] != NONE && table.promised[to] != p) {
                    bits |= 1 << p;
                }
            }
            return bits;
        }

        int firstLivingTo(int person) {
            for (int p = 0; p < house.people; p++) {
                if (table.promised[p] == person && !table.isDead(p)) {
                    return p;
                }
            }
            return NONE;
        }
    }

    /** Where one can be by what was eaten, and how likely by wandering. */
    private static final class Tracks {
        private static final int MOST_ROWS = 20;
        private static final int MOST_EATEN = 9;
        private static final int MOST_PATHS = 9999;
        private static final int SURE = 10000;

        private final Tape tape;
        private final House house;
        /** Of each place by how many paths one is there: at most 8 to the 20th. */
        private long[] paths = new long[PLACES];
        private long[] pathsBefore = new long[PLACES];
        private int[] chance = new int[PLACES];
        private int[] chanceBefore = new int[PLACES];
        private final int[] parts = new int[MOST_EATEN + 1];

        Tracks(Tape tape, House house) {
            this.tape = tape;
            this.house = house;
        }

        /** False, if these bytes of the tape are not rows. */
        boolean follow(int told) {
            if (told % 2 != 0 || told > 2 * MOST_ROWS) {
                return false;
            }
            for (int i = 0; i + 1 < told; i += 2) {
                if (tape.bytes[i] >= house.dishes || tape.bytes[i + 1] > MOST_EATEN) {
                    return false;
                }
            }
            for (int place = 0; place < PLACES; place++) {
                paths[place] = 1;
            }
            for (int i = 0; i + 1 < told; i += 2) {
                step(tape.bytes[i], tape.bytes[i + 1]);
            }
            return true;
        }

        private void step(int dish, int much) {
            long[] before = paths;
            paths = pathsBefore;
            pathsBefore = before;
            for (int place = 0; place < PLACES; place++) {
                paths[place] = house.eatenAt(dish, place) == much ? pathsTo(place) : 0;
            }
        }

        private long pathsTo(int place) {
            long sum = pathsBefore[place];
            for (int other = 0; other < PLACES; other++) {
                if (has(house.roads[place], other)) {
                    sum += pathsBefore[other];
                }
            }
            return sum;
        }

        int placeBits() {
            int bits = 0;
            for (int place = 0; place < PLACES; place++) {
                if (paths[place] > 0) {
                    bits |= 1 << place;
                }
            }
            return bits;
        }

        int pathCount() {
            long sum = 0;
            for (int place = 0; place < PLACES; place++) {
                // All together may be more than a long holds.
                sum += Math.min(MOST_PATHS, paths[place]);
            }
            return (int) Math.min(MOST_PATHS, sum);
        }

        int likeliest() {
            int found = NONE;
            for (int place = 0; place < PLACES; place++) {
                if (paths[place] > 0 && (found == NONE || paths[place] > paths[found])) {
                    found = place;
                }
            }
            return found;
        }

        int partingDish() {
            int places = house.reach(placeBits());
            if (Integer.bitCount(places) < 2) {
                return NONE;
            }
            int found = NONE;
            int least = PLACES + 1;
            for (int dish = 0; dish < house.dishes; dish++) {
                int greatest = greatestPart(places, dish);
                if (greatest < least) {
                    least = greatest;
                    found = dish;
                }
            }
            return found;
        }

        private int greatestPart(int places, int dish) {
            for (int much = 0; much <= MOST_EATEN; much++) {
                parts[much] = 0;
            }
            int greatest = 0;
            for (int place = 0; place < PLACES; place++) {
                if (has(places, place)) {
                    int much = house.eatenAt(dish, place);
                    parts[much]++;
                    greatest = Math.max(greatest, parts[much]);
                }
            }
            return greatest;
        }

        int oddsOf(int from, int nights, int to) {
            for (int place = 0; place < PLACES; place++) {
                chance[place] = place == from ? SURE : 0;
            }
            for (int i = 0; i < nights; i++) {
                spread();
            }
            return chance[to];
        }

        private void spread() {
            int[] before = chance;
            chance = chanceBefore;
            chanceBefore = before;
            for (int place = 0; place < PLACES; place++) {
                chance[place] = chanceBefore[place] - goingByEach(place) * Integer.bitCount(house.roads[place]);
            }
            for (int place = 0; place < PLACES; place++) {
                for (int other = 0; other < PLACES; other++) {
                    if (has(house.roads[place], other)) {
                        chance[other] += goingByEach(place);
                    }
                }
            }
        }

        private int goingByEach(int place) {
            int many = Integer.bitCount(house.roads[place]);
            return many == 0 ? 0 : chanceBefore[place] * house.walk / 100 / many;
        }
    }
}
