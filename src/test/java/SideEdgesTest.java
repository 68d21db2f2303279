import java.util.Arrays;

/** Edges of sides and votes, power, bargains, brides and promises: promises 27 to 42. */
public final class SideEdgesTest {
    private static final Check CHECK = new Check("SideEdgesTest");
    private static final int[] FAR_OFF = {Integer.MIN_VALUE, Integer.MIN_VALUE + 1, -256, 256, Integer.MAX_VALUE};

    public static void main(String[] args) {
        wins();
        setsOfNone();
        needed();
        swings();
        pivots();
        pivotsRoundedDown();
        side();
        minimal();
        dummies();
        blocks();
        split();
        splitOfTheDead();
        leaves();
        leavesRoundedDown();
        keenTape();
        keenOwn();
        keenOfAll();
        brides();
        bridesFirst();
        bridesOfTheDead();
        rather();
        ratherThanNow();
        ratherOfTheDead();
        circle();
        pairs();
        jilts();
        heir();
        CHECK.finish();
    }

    private static AbsentRings votes(int quota, int... votes) {
        StringBuilder text = new StringBuilder("quota ").append(quota).append(";limit 1;walk 0;dish 00000000");
        for (int v : votes) {
            text.append(";person weight 1 at 0 vote ").append(v);
        }
        return Check.told(text.toString());
    }

    private static AbsentRings people(int many) {
        int[] votes = new int[many];
        Arrays.fill(votes, 1);
        return votes(1, votes);
    }

    private static void kill(AbsentRings x, int... people) {
        x.serve(0);
        for (int p : people) {
            x.off(p);
        }
    }

    private static void wins() {
        CHECK.says(0, "QUOTA 0 to 160 (1 at first): VOTES that are needed.");
        CHECK.says(0, "SIDE: a set of PEOPLE who are not DEAD; it WINS, if their VOTES together are QUOTA at least.");
        AbsentRings x = votes(5, 3, 2, 4);
        CHECK.isTrue("just the quota", x.wins(3));
        CHECK.isFalse("one below", x.wins(4));
        CHECK.isTrue("above", x.wins(5));
        CHECK.isFalse("nobody", x.wins(0));
        CHECK.isTrue("quota 0: nobody wins", votes(0, 3).wins(0));
        CHECK.isTrue("quota 0 without people", votes(0).wins(0));
        CHECK.isFalse("quota 1 without people", new AbsentRings().wins(-1));
        CHECK.says(27, "Whether a SIDE WINS (DEAD ones do not count).");
        kill(x, 0);
        CHECK.isFalse("one of them is dead", x.wins(3));
        CHECK.isTrue("those not dead", x.wins(7));
    }

    private static void setsOfNone() {
        CHECK.says(0, "Sets are bits; of none they count for nothing.");
        AbsentRings x = votes(3, 2, 1);
        CHECK.isFalse("a third one is none", x.wins(4));
        CHECK.isTrue("all bits", x.wins(-1));
        CHECK.isFalse("all bits but two", x.wins(~3));
        CHECK.isFalse("the highest bit", x.wins(Integer.MIN_VALUE));
        CHECK.isTrue("the highest bit beside", x.wins(Integer.MIN_VALUE | 3));
        CHECK.isTrue("all but the highest", x.wins(Integer.MAX_VALUE));
        CHECK.isFalse("bit 8 is none", x.wins(256 | 1));
        CHECK.isFalse("blocks: none in it", x.blocks(~3));
        CHECK.isTrue("blocks: all bits", x.blocks(-1));
        CHECK.isTrue("blocks: one, and none", x.blocks(Integer.MIN_VALUE | 1));
    }

    private static void needed() {
        CHECK.says(0, "NEEDED: who is in each SIDE that WINS, as bits (all not DEAD, if none WINS).");
        CHECK.says(28, "NEEDED, as bits.");
        CHECK.same("none wins", votes(4, 2, 1).needed(), 3);
        CHECK.same("all alone win", votes(3, 2, 1).needed(), 3);
        CHECK.same("one is in each", votes(2, 2, 1).needed(), 1);
        CHECK.same("none is in each", votes(1, 2, 1).needed(), 0);
        CHECK.same("quota 0: nobody wins", votes(0, 2, 1).needed(), 0);
        CHECK.same("quota 0: nobody wins, and one alone", votes(0, 2).needed(), 0);
        CHECK.same("without people", new AbsentRings().needed(), 0);
        AbsentRings x = votes(3, 2, 1, 1);
        CHECK.same("0 and one of two", x.needed(), 1);
        kill(x, 1);
        CHECK.same("0 and the other one", x.needed(), 5);
        x.off(0);
        CHECK.same("none wins: all not dead", x.needed(), 4);
        x.off(2);
        CHECK.same("all dead", x.needed(), 0);
    }

    private static void swings() {
        CHECK.says(0, "SWINGS of a PERSON: in how many SIDES that WIN without whom they would not.");
        CHECK.says(29, "SWINGS (0 of a DEAD one).");
        AbsentRings x = votes(3, 2, 1, 1);
        CHECK.same("with 1, with 2, with both", x.swings(0), 3);
        CHECK.same("with 0 alone", x.swings(1), 1);
        CHECK.same("quota 0", votes(0, 2, 1).swings(0), 0);
        CHECK.same("beyond all", votes(4, 2, 1).swings(0), 0);
        CHECK.same("no vote", votes(2, 2, 0).swings(1), 0);
        CHECK.same("alone in half of all", votes(1, 1, 0, 0, 0, 0, 0, 0, 0).swings(0), 128);
        kill(x, 1);
        CHECK.same("of a dead one", x.swings(1), 0);
        CHECK.same("with 2", x.swings(0), 1);
        CHECK.noIndex("3", () -> x.swings(3));
        CHECK.noIndex("-1", () -> x.swings(-1));
        for (int far : FAR_OFF) {
            CHECK.noIndex("far off " + far, () -> x.swings(far));
        }
    }

    private static void pivots() {
        CHECK.says(0, "PIVOTS of a PERSON: in how many hundredths of all orders of those not DEAD the VOTES come to"
                + " QUOTA just by that one, as one comes behind another (rounded down).");
        CHECK.says(30, "PIVOTS (0 of a DEAD one).");
        CHECK.same("one alone", votes(1, 1).pivots(0), 100);
        CHECK.same("one alone, beyond", votes(2, 1).pivots(0), 0);
        CHECK.same("one alone, quota 0", votes(0, 1).pivots(0), 0);
        CHECK.same("one of two", votes(1, 1, 1).pivots(1), 50);
        AbsentRings x = votes(2, 1, 1, 1);
        CHECK.same("one of three", x.pivots(2), 33);
        kill(x, 0);
        CHECK.same("of a dead one", x.pivots(0), 0);
        CHECK.same("one of two left", x.pivots(2), 50);
        x.off(1);
        CHECK.same("one left", x.pivots(2), 0);
        x.off(2);
        CHECK.same("none left", x.pivots(2), 0);
        CHECK.noIndex("3", () -> x.pivots(3));
        CHECK.noIndex("-1", () -> x.pivots(-1));
        for (int far : FAR_OFF) {
            CHECK.noIndex("far off " + far, () -> x.pivots(far));
        }
    }

    private static void pivotsRoundedDown() {
        // Of 8! = 40320 orders 5040 each: 12.5 hundredths.
        for (int quota = 1; quota <= 8; quota++) {
            CHECK.same("quota " + quota, votes(quota, 1, 1, 1, 1, 1, 1, 1, 1).pivots(0), 12);
        }
        // 20 of quota 20 against seven of 1: the great one in all orders.
        CHECK.same("all", votes(20, 20, 1, 1, 1, 1, 1, 1, 1).pivots(0), 100);
        // Of quota 7: the small ones in the one order of eight in which the great one is last.
        CHECK.same("seven of eight", votes(7, 7, 1, 1, 1, 1, 1, 1, 1).pivots(0), 87);
        CHECK.same("one by seven of eight", votes(7, 7, 1, 1, 1, 1, 1, 1, 1).pivots(1), 1);
        // Counted by going through all orders; an order more or less would round to another hundredth.
        CHECK.same("30", votes(35, 5, 20, 0, 3, 1, 0, 7, 3).pivots(1), 30);
        CHECK.same("16", votes(7, 0, 6, 4, 3, 0, 3, 1, 0).pivots(3), 16);
        CHECK.same("8", votes(13, 2, 2, 4, 5, 3, 2, 2, 2).pivots(0), 8);
        CHECK.same("20", votes(42, 16, 9, 5, 3, 9).pivots(4), 20);
        CHECK.same("5", votes(14, 3, 0, 6, 1, 1, 4).pivots(4), 5);
        CHECK.same("10", votes(10, 2, 19, 4, 4, 0, 4, 4).pivots(3), 10);
    }

    private static void side() {
        CHECK.says(0, "LEAST SIDE: the fewest PEOPLE of a SIDE that WINS: of several the least as bits; none.");
        CHECK.says(31, "LEAST SIDE, as bits; NONE.");
        CHECK.same("none", votes(4, 2, 1).side(), -1);
        CHECK.same("quota 0: nobody", votes(0, 2, 1).side(), 0);
        CHECK.same("without people", new AbsentRings().side(), -1);
        CHECK.same("all", votes(3, 2, 1).side(), 3);
        CHECK.same("one, not two of lesser bits", votes(3, 2, 1, 3).side(), 4);
        CHECK.same("of two ones the least", votes(3, 1, 3, 3).side(), 2);
        CHECK.same("of several pairs the least", votes(4, 1, 2, 2, 2).side(), 6);
        AbsentRings x = votes(1, 1, 1, 1);
        kill(x, 0);
        CHECK.same("not a dead one", x.side(), 2);
        x.off(1);
        x.off(2);
        CHECK.same("all dead", x.side(), -1);
    }

    private static void minimal() {
        CHECK.says(0, "MINIMAL: how many SIDES WIN of which none would WIN without any one of it.");
        CHECK.says(32, "MINIMAL.");
        CHECK.same("none wins", votes(4, 2, 1).minimal(), 0);
        CHECK.same("all alone", votes(3, 2, 1).minimal(), 1);
        CHECK.same("each alone", votes(1, 1, 1, 1).minimal(), 3);
        CHECK.same("two of three", votes(2, 1, 1, 1).minimal(), 3);
        CHECK.same("with one of no vote", votes(2, 2, 0).minimal(), 1);
        CHECK.same("quota 0: nobody is such a side", votes(0, 2, 1).minimal(), 1);
        CHECK.same("quota 0 without people", votes(0).minimal(), 1);
        CHECK.same("without people", new AbsentRings().minimal(), 0);
        CHECK.same("four of eight", votes(4, 1, 1, 1, 1, 1, 1, 1, 1).minimal(), 70);
        AbsentRings x = votes(2, 1, 1, 1);
        kill(x, 1);
        CHECK.same("one dead", x.minimal(), 1);
        x.off(0);
        CHECK.same("two dead", x.minimal(), 0);
    }

    private static void dummies() {
        CHECK.says(0, "DUMMIES: who SWINGS in none, as bits.");
        CHECK.says(33, "DUMMIES, as bits (of those not DEAD).");
        CHECK.same("none wins", votes(4, 2, 1).dummies(), 3);
        CHECK.same("quota 0", votes(0, 2, 1).dummies(), 3);
        CHECK.same("all swing", votes(3, 2, 1).dummies(), 0);
        CHECK.same("one of no vote", votes(3, 2, 1, 0).dummies(), 4);
        CHECK.same("one who does not tip", votes(4, 2, 2, 1).dummies(), 4);
        CHECK.same("without people", new AbsentRings().dummies(), 0);
        AbsentRings x = votes(4, 2, 2, 1);
        kill(x, 0);
        CHECK.same("not the dead", x.dummies(), 6);
        x.off(1);
        x.off(2);
        CHECK.same("all dead", x.dummies(), 0);
    }

    private static void blocks() {
        CHECK.says(0, "BLOCKS: whether the others of a SIDE do not WIN.");
        CHECK.says(34, "BLOCKS.");
        AbsentRings x = votes(3, 2, 1, 1);
        CHECK.isFalse("the others have just the quota", x.blocks(2));
        CHECK.isTrue("the others have one less", x.blocks(1));
        CHECK.isFalse("nobody", x.blocks(0));
        CHECK.isTrue("all", x.blocks(7));
        CHECK.isFalse("quota 0: all", votes(0, 2, 1).blocks(3));
        CHECK.isTrue("without people", new AbsentRings().blocks(0));
        CHECK.isFalse("quota 0 without people", votes(0).blocks(0));
        kill(x, 0);
        CHECK.isTrue("a dead one is none of the others", x.blocks(0));
    }

    private static void split() {
        CHECK.says(0, "SPLIT of 100: each of those not DEAD has SWINGS of its own in hundredths of all SWINGS,"
                + " rounded down; what is left goes to the one of the most SWINGS (of several the least): what a"
                + " PERSON has (0 without SWINGS).");
        CHECK.says(35, "SPLIT (0 of a DEAD one).");
        AbsentRings x = votes(2, 1, 1, 1);
        CHECK.same("what is left goes to the least", x.split(0), 34);
        CHECK.same("not to the others", x.split(1), 33);
        CHECK.same("nor to the last", x.split(2), 33);
        AbsentRings y = votes(4, 1, 1, 1, 3);
        // Swings: of 3 with any of three, not none: 7; of each other one with 3 alone: 1. 70 and 10 each.
        CHECK.same("nothing is left", y.split(3), 70);
        CHECK.same("the others", y.split(0), 10);
        AbsentRings z = votes(5, 1, 2, 2, 3);
        int sum = z.split(0) + z.split(1) + z.split(2) + z.split(3);
        CHECK.same("together", sum, 100);
        // Swings 5, 9, 5, 7, 1, 5 of 32: 15.6, 28.1, 15.6, 21.9, 3.1, 15.6, and 3 are left for the second one.
        int[] due = {15, 31, 15, 21, 3, 15};
        for (int p = 0; p < due.length; p++) {
            CHECK.same("of six " + p, votes(20, 4, 7, 5, 6, 1, 3).split(p), due[p]);
        }
        CHECK.same("none wins", votes(4, 2, 1).split(0), 0);
        CHECK.same("quota 0", votes(0, 2, 1).split(0), 0);
        CHECK.same("one has all", votes(2, 0, 2, 1).split(1), 100);
        CHECK.same("one has nothing", votes(2, 0, 2, 1).split(0), 0);
        CHECK.same("eight: 12 and what is left", votes(4, 1, 1, 1, 1, 1, 1, 1, 1).split(0), 16);
        CHECK.same("eight: 12", votes(4, 1, 1, 1, 1, 1, 1, 1, 1).split(7), 12);
    }

    private static void splitOfTheDead() {
        AbsentRings x = votes(2, 1, 1, 1, 1);
        kill(x, 0);
        CHECK.same("a dead one", x.split(0), 0);
        CHECK.same("what is left goes to the least of the others", x.split(1), 34);
        CHECK.same("the last", x.split(3), 33);
        x.off(1);
        x.off(2);
        CHECK.same("no swings", x.split(3), 0);
        x.off(3);
        CHECK.same("all dead", x.split(3), 0);
        CHECK.noIndex("4", () -> x.split(4));
        CHECK.noIndex("-1", () -> x.split(-1));
        for (int far : FAR_OFF) {
            CHECK.noIndex("far off " + far, () -> x.split(far));
        }
    }

    private static void leaves() {
        CHECK.says(0, "the least such SIDE as bits (fewest first, then the least); none.");
        CHECK.says(36, "LEAVES, as bits; NONE.");
        CHECK.same("none wins", votes(4, 2, 1).leaves(), -1);
        CHECK.same("without people", new AbsentRings().leaves(), -1);
        CHECK.same("without votes", votes(0, 0, 0).leaves(), -1);
        CHECK.same("nobody has no less than nothing", votes(0, 0).leaves(), -1);
        // Swings of 2, 1, 1 at quota 1: one each; 34, 33, 33 against 50, 25, 25.
        CHECK.same("one", votes(1, 2, 1, 1).leaves(), 1);
        CHECK.same("one, behind two of lesser bits", votes(1, 1, 1, 2).leaves(), 4);
        // 10, 9, 1, 1 at 11: 52, 16, 16, 16 against 47, 42, 4, 4: 0 and 1 have 68 of 90.
        CHECK.same("two", votes(11, 10, 9, 1, 1).leaves(), 3);
        CHECK.same("two of greater bits", votes(11, 1, 1, 9, 10).leaves(), 12);
        AbsentRings x = votes(1, 2, 1, 1);
        kill(x, 0);
        CHECK.same("half each", x.leaves(), -1);
        CHECK.same("quota 0: no swings, so each with a vote", votes(0, 0, 1, 1).leaves(), 2);
    }

    private static void leavesRoundedDown() {
        CHECK.says(0, "LEAVES: whether some SIDE that WINS has less in that SPLIT than its VOTES in hundredths of all"
                + " VOTES of those not DEAD, rounded down");
        // Swings 2 each: 34, 33, 33. A side of two has 66.6 hundredths of votes: 66, and 66 at least in the split.
        CHECK.same("66 and 66", votes(2, 1, 1, 1).leaves(), -1);
        // 3, 6 and 4 of 16 votes are 81.25 hundredths, just more than what these three have.
        AbsentRings x = votes(11, 3, 6, 4, 3);
        CHECK.same("80 in the split", x.split(0) + x.split(1) + x.split(2), 80);
        CHECK.same("80 and 81", x.leaves(), 7);
        CHECK.same("all have all", votes(12, 4, 3, 5).leaves(), -1);
        // At quota 1 each swings once: 34, 33, 33; votes 3, 3, 3 are 33 each.
        CHECK.same("33 and 33", votes(1, 3, 3, 3).leaves(), -1);
        // Of six: 16 each and 4 more for the first; votes 1 of 6 are 16; two of the others have 32 of 33.
        CHECK.same("sums are rounded together", votes(1, 1, 1, 1, 1, 1, 1).leaves(), 6);
    }

    private static void keenRefused(AbsentRings x, int... bytes) {
        CHECK.noArgument("brides of " + bytes.length, () -> Check.tape(x, bytes).brides(-1));
        CHECK.isFalse("used up", x.end(1));
        CHECK.noArgument("rather of " + bytes.length, () -> Check.tape(x, bytes).rather());
        CHECK.isFalse("used up", x.end(1));
        if (x.count(0) > 0) {
            CHECK.noArgument("brides 0 of " + bytes.length, () -> Check.tape(x, bytes).brides(0));
        }
    }

    private static void keenTape() {
        CHECK.says(0, "KEEN: told is a row of figures: of each PERSON of each other one how keen it is (0: not at"
                + " all): as many rows as there are PEOPLE, each of as many bytes 0 to 9");
        CHECK.says(37, "Uses the TAPE up: BRIDES by KEEN: how much (person NONE), or to whom one is promised; NONE."
                + " IllegalArgumentException: the TAPE is not that.");
        CHECK.says(38, "Uses the TAPE up: RATHER by KEEN. IllegalArgumentException: the TAPE is not that.");
        AbsentRings none = new AbsentRings();
        CHECK.same("without people: nothing told", none.brides(-1), 0);
        CHECK.same("without people: nothing told", none.rather(), 0);
        keenRefused(none, 0);
        CHECK.noIndex("without people", () -> none.brides(0));
        AbsentRings one = people(1);
        CHECK.same("one alone", Check.tape(one, 5).brides(-1), 0);
        CHECK.same("one alone: none", Check.tape(one, 5).brides(0), -1);
        CHECK.same("one alone", Check.tape(one, 5).rather(), 0);
        keenRefused(one);
        keenRefused(one, 0, 0);
        AbsentRings x = people(3);
        CHECK.same("nine", Check.tape(x, 0, 9, 9, 9, 0, 9, 9, 9, 0).brides(-1), 18);
        CHECK.isFalse("used up", x.end(1));
        CHECK.same("nine", Check.tape(x, 0, 9, 9, 9, 0, 9, 9, 9, 0).rather(), 3);
        CHECK.isFalse("used up", x.end(1));
        for (int at : new int[] {1, 2, 3, 5, 6, 7}) {
            int[] bytes = new int[9];
            bytes[at] = 10;
            keenRefused(x, bytes);
            bytes[at] = 255;
            keenRefused(x, bytes);
        }
        keenRefused(x);
        keenRefused(x, new int[8]);
        keenRefused(x, new int[10]);
        keenRefused(x, new int[400]);
        CHECK.noIndex("3 ahead of the tape", () -> Check.tape(x, 1).brides(3));
        CHECK.isFalse("used up", x.end(1));
        CHECK.noIndex("-2", () -> Check.tape(x, new int[9]).brides(-2));
        CHECK.isFalse("used up", x.end(1));
        for (int far : FAR_OFF) {
            CHECK.noIndex("far off " + far, () -> Check.tape(x, new int[9]).brides(far));
        }
    }

    private static void keenOwn() {
        CHECK.says(0, "(its own not looked at)");
        AbsentRings x = people(2);
        CHECK.same("brides", Check.tape(x, 255, 3, 4, 10).brides(-1), 7);
        CHECK.same("to whom", Check.tape(x, 255, 3, 4, 10).brides(0), 1);
        x.feed(0x00030400, -1, -1, -1, -1);
        x.end(4);
        CHECK.same("nor what was cut off", x.brides(-1), 7);
        x.feed(0x00030400, -1, -1, -1, -1);
        x.end(4);
        CHECK.same("nor by rather", x.rather(), 1);
        CHECK.same("rather", Check.tape(x, 255, 3, 4, 10).rather(), 1);
    }

    private static void keenOfAll() {
        // The dead are told of, too: as many rows as there are people.
        AbsentRings x = people(3);
        kill(x, 1);
        CHECK.same("nine bytes", Check.tape(x, 0, 1, 1, 1, 0, 1, 1, 1, 0).brides(-1), 2);
        keenRefused(x, new int[4]);
        int[] bytes = new int[9];
        bytes[1] = 10;
        keenRefused(x, bytes);
    }

    private static void brides() {
        CHECK.says(0, "BRIDES: of all ways to promise PEOPLE who are not DEAD two by two, only two each of whom is"
                + " keen on the other one, the one by which keenness of all together is the most: how much; to whom"
                + " one is promised");
        AbsentRings x = people(2);
        CHECK.same("not keen", Check.tape(x, 0, 0, 0, 0).brides(-1), 0);
        CHECK.same("one is keen", Check.tape(x, 0, 9, 0, 0).brides(-1), 0);
        CHECK.same("the other one is", Check.tape(x, 0, 0, 9, 0).brides(-1), 0);
        CHECK.same("none of them", Check.tape(x, 0, 0, 9, 0).brides(0), -1);
        CHECK.same("both, just", Check.tape(x, 0, 1, 1, 0).brides(-1), 2);
        CHECK.same("to each other", Check.tape(x, 0, 1, 1, 0).brides(0), 1);
        CHECK.same("to each other", Check.tape(x, 0, 1, 1, 0).brides(1), 0);
        AbsentRings y = people(4);
        // 1 and 2: 18; 0 and 1, 2 and 3: 10 each. Two pairs of less are more together.
        int[] chain = {0, 5, 0, 0, 5, 0, 9, 0, 0, 9, 0, 5, 0, 0, 5, 0};
        CHECK.same("two pairs", Check.tape(y, chain).brides(-1), 20);
        chain[1] = 4;
        chain[4] = 4;
        // 8 and 10 are as much as 18: none is the least for 0.
        CHECK.same("as much", Check.tape(y, chain).brides(-1), 18);
        CHECK.same("none for 0", Check.tape(y, chain).brides(0), -1);
        CHECK.same("2 for 1", Check.tape(y, chain).brides(1), 2);
        CHECK.same("none for 3", Check.tape(y, chain).brides(3), -1);
        AbsentRings z = people(8);
        int[] most = new int[64];
        Arrays.fill(most, 9);
        CHECK.same("the most of all", Check.tape(z, most).brides(-1), 72);
        y.promise(0, 3);
        CHECK.same("promises as they are do not matter", Check.tape(y, chain).brides(0), -1);
        CHECK.same("and stay", y.person(0, 4), 3);
    }

    private static void bridesFirst() {
        CHECK.says(0, "in the first such way (PERSON by PERSON, none being the least, then the others); none");
        AbsentRings x = people(5);
        int[] all = new int[25];
        Arrays.fill(all, 1);
        int[] due = {-1, 2, 1, 4, 3};
        for (int p = 0; p < 5; p++) {
            CHECK.same("of five " + p, Check.tape(x, all).brides(p), due[p]);
        }
        AbsentRings y = people(6);
        int[] six = new int[36];
        Arrays.fill(six, 2);
        int[] pairs = {1, 0, 3, 2, 5, 4};
        for (int p = 0; p < 6; p++) {
            CHECK.same("of six " + p, Check.tape(y, six).brides(p), pairs[p]);
        }
    }

    private static void bridesOfTheDead() {
        AbsentRings x = people(4);
        int[] all = new int[16];
        Arrays.fill(all, 3);
        kill(x, 0);
        CHECK.same("three left", Check.tape(x, all).brides(-1), 6);
        CHECK.same("a dead one", Check.tape(x, all).brides(0), -1);
        CHECK.same("none for the first of the others", Check.tape(x, all).brides(1), -1);
        CHECK.same("3 for 2", Check.tape(x, all).brides(2), 3);
        x.off(1);
        x.off(2);
        x.off(3);
        CHECK.same("all dead", Check.tape(x, all).brides(-1), 0);
        CHECK.same("none", Check.tape(x, all).brides(3), -1);
    }

    private static void rather() {
        CHECK.says(0, "one would rather a PERSON on whom it is keener than on the one it is with (with none: keen at"
                + " all)");
        AbsentRings x = people(2);
        CHECK.same("both, just", Check.tape(x, 0, 1, 1, 0).rather(), 1);
        CHECK.same("one alone", Check.tape(x, 0, 9, 0, 0).rather(), 0);
        CHECK.same("the other one alone", Check.tape(x, 0, 0, 9, 0).rather(), 0);
        CHECK.same("neither", Check.tape(x, 0, 0, 0, 0).rather(), 0);
        CHECK.says(0, "pairs that are with each other do not count");
        x.promise(0, 1);
        CHECK.same("promised by one alone", Check.tape(x, 0, 9, 9, 0).rather(), 1);
        x.promise(1, 0);
        CHECK.same("with each other", Check.tape(x, 0, 9, 9, 0).rather(), 0);
    }

    private static void ratherThanNow() {
        CHECK.says(0, "one who is PROMISED to one who is PROMISED to it is with that one, else with none");
        AbsentRings x = people(4);
        x.promise(0, 1);
        x.promise(1, 0);
        x.promise(2, 3);
        x.promise(3, 2);
        // 0 is keen on 1 by 5, 2 on 3 by 5.
        int[] keen = {0, 5, 5, 0, 5, 0, 0, 0, 5, 0, 0, 5, 0, 0, 5, 0};
        CHECK.same("as keen is not keener", Check.tape(x, keen).rather(), 0);
        keen[2] = 6;
        CHECK.same("one is keener", Check.tape(x, keen).rather(), 0);
        keen[8] = 6;
        CHECK.same("both are", Check.tape(x, keen).rather(), 1);
        x.promise(1, 2);
        keen[2] = 1;
        CHECK.same("0 is with none then", Check.tape(x, keen).rather(), 2);
    }

    private static void ratherOfTheDead() {
        CHECK.says(0, "RATHER: how many pairs of PEOPLE who are not DEAD would both rather be with each other than as"
                + " they are now");
        AbsentRings x = people(3);
        int[] keen = {0, 5, 5, 5, 0, 5, 5, 5, 0};
        CHECK.same("three pairs", Check.tape(x, keen).rather(), 3);
        kill(x, 2);
        CHECK.same("one pair", Check.tape(x, keen).rather(), 1);
        x.promise(0, 2);
        x.promise(2, 0);
        CHECK.same("0 is with the dead one still, as keen on it", Check.tape(x, keen).rather(), 0);
        keen[1] = 6;
        CHECK.same("and keener on 1", Check.tape(x, keen).rather(), 1);
        x.off(0);
        CHECK.same("one left", Check.tape(x, keen).rather(), 0);
        AbsentRings y = people(8);
        int[] all = new int[64];
        Arrays.fill(all, 9);
        CHECK.same("all pairs of eight", Check.tape(y, all).rather(), 28);
    }

    private static void circle() {
        CHECK.says(0, "CIRCLE of a PERSON: whether by PROMISED, from one to the one it is PROMISED to, one comes back"
                + " to it.");
        CHECK.says(39, "CIRCLE.");
        AbsentRings x = people(8);
        CHECK.isFalse("to none", x.circle(0));
        for (int p = 0; p < 7; p++) {
            x.promise(p, p + 1);
        }
        CHECK.isFalse("seven steps, and none", x.circle(0));
        x.promise(7, 1);
        CHECK.isFalse("into a ring, round and round", x.circle(0));
        CHECK.isTrue("a ring of seven", x.circle(1));
        CHECK.isTrue("from its end", x.circle(7));
        x.promise(7, 0);
        CHECK.isTrue("a ring of eight", x.circle(0));
        x.promise(7, 6);
        CHECK.isFalse("into a ring of two", x.circle(0));
        CHECK.isTrue("a ring of two", x.circle(6));
        kill(x, 7);
        CHECK.isTrue("the dead are promised still", x.circle(6));
        CHECK.isTrue("a dead one itself", x.circle(7));
        CHECK.noIndex("8", () -> x.circle(8));
        CHECK.noIndex("-1", () -> x.circle(-1));
        for (int far : FAR_OFF) {
            CHECK.noIndex("far off " + far, () -> x.circle(far));
        }
    }

    private static void pairs() {
        CHECK.says(0, "TRUE: pairs who are PROMISED each to the other one: how many.");
        CHECK.says(40, "TRUE.");
        CHECK.same("without people", new AbsentRings().pairs(), 0);
        AbsentRings x = people(8);
        CHECK.same("none", x.pairs(), 0);
        x.promise(0, 7);
        CHECK.same("one way", x.pairs(), 0);
        x.promise(7, 0);
        CHECK.same("each to the other one", x.pairs(), 1);
        for (int p = 1; p < 7; p++) {
            x.promise(p, p % 2 == 1 ? p + 1 : p - 1);
        }
        CHECK.same("all", x.pairs(), 4);
        kill(x, 0, 7);
        CHECK.same("the dead, too", x.pairs(), 4);
    }

    private static void jilts() {
        CHECK.says(0, "JILTS: who is PROMISED to one who is PROMISED to a third one, as bits.");
        CHECK.says(41, "JILTS, as bits.");
        CHECK.same("without people", new AbsentRings().jilts(), 0);
        AbsentRings x = people(8);
        CHECK.same("none", x.jilts(), 0);
        x.promise(0, 1);
        CHECK.same("to one who is promised to none", x.jilts(), 0);
        x.promise(1, 0);
        CHECK.same("to one who is promised to it", x.jilts(), 0);
        x.promise(1, 2);
        CHECK.same("to one who is promised to a third", x.jilts(), 1);
        for (int p = 0; p < 8; p++) {
            x.promise(p, (p + 1) % 8);
        }
        CHECK.same("all", x.jilts(), 255);
        x.promise(7, -1);
        CHECK.same("7 to none", x.jilts(), 63);
    }

    private static void heir() {
        CHECK.says(0, "HEIR of a PERSON: the one AWAY or at HOME, not DEAD, PROMISED to it (of several the least;"
                + " none).");
        CHECK.says(42, "HEIR; NONE.");
        AbsentRings x = people(8);
        CHECK.same("none", x.heir(0), -1);
        x.promise(7, 0);
        CHECK.same("away", x.heir(0), 7);
        x.home(7);
        CHECK.same("at home", x.heir(0), 7);
        x.promise(3, 0);
        CHECK.same("of several the least", x.heir(0), 3);
        kill(x, 3);
        CHECK.same("not the dead one", x.heir(0), 7);
        x.promise(7, -1);
        CHECK.same("none but the dead one", x.heir(0), -1);
        CHECK.same("of one promised to it, not turned", x.heir(3), -1);
        x.promise(0, 3);
        CHECK.same("of a dead one", x.heir(3), 0);
        CHECK.noIndex("8", () -> x.heir(8));
        CHECK.noIndex("-1", () -> x.heir(-1));
        for (int far : FAR_OFF) {
            CHECK.noIndex("far off " + far, () -> x.heir(far));
        }
    }
}
