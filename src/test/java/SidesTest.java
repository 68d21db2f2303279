/** Promises 27 to 42: sides and votes, power, bargains, brides, promises. */
public final class SidesTest {
    private static final Check CHECK = new Check("SidesTest");

    public static void main(String[] args) {
        winsAndBlocks();
        needed();
        power();
        pivotsOfMany();
        dead();
        least();
        splitAndLeaves();
        withoutVotes();
        brides();
        bridesFirstWay();
        rather();
        keenTape();
        circles();
        heirs();
        CHECK.finish();
    }

    private static AbsentRings votes(int quota, int... votes) {
        StringBuilder text = new StringBuilder("quota ").append(quota).append(";limit 1;walk 0;dish 00000000");
        for (int v : votes) {
            text.append(";person weight 1 at 0 vote ").append(v);
        }
        return Check.told(text.toString());
    }

    private static void kill(AbsentRings x, int person) {
        x.serve(0);
        x.off(person);
    }

    private static void winsAndBlocks() {
        AbsentRings x = votes(5, 3, 2, 1, 4);
        CHECK.isTrue("3 and 2", x.wins(3));
        CHECK.isFalse("3 and 1", x.wins(5));
        CHECK.isTrue("all bits", x.wins(-1));
        CHECK.isFalse("of none", x.wins(~15));
        CHECK.isTrue("of none beside", x.wins(~15 | 9));
        CHECK.isFalse("blocks: the others are 3 and 2", x.blocks(12));
        CHECK.isTrue("blocks: the others are 3 and 1", x.blocks(10));
        CHECK.isTrue("blocks: all", x.blocks(-1));
        CHECK.isFalse("blocks: none", x.blocks(0));
        kill(x, 0);
        CHECK.isFalse("a dead one does not count", x.wins(3));
        CHECK.isTrue("blocks: the others are 2 and 1 now", x.blocks(8));
    }

    private static void needed() {
        CHECK.same("one", votes(5, 3, 2, 1).needed(), 3);
        CHECK.same("all", votes(6, 3, 2, 1).needed(), 7);
        CHECK.same("none", votes(3, 3, 2, 1).needed(), 0);
        CHECK.same("one of all", votes(4, 3, 2, 1).needed(), 1);
        CHECK.same("if none wins", votes(7, 3, 2, 1).needed(), 7);
        CHECK.same("quota 0", votes(0, 3, 2, 1).needed(), 0);
        AbsentRings x = votes(7, 3, 2, 1);
        kill(x, 1);
        CHECK.same("if none wins, of those not dead", x.needed(), 5);
        CHECK.same("of nobody", new AbsentRings().needed(), 0);
    }

    private static void power() {
        AbsentRings x = votes(3, 2, 1, 1);
        CHECK.same("swings 0", x.swings(0), 3);
        CHECK.same("swings 1", x.swings(1), 1);
        CHECK.same("swings 2", x.swings(2), 1);
        CHECK.same("pivots 0", x.pivots(0), 66);
        CHECK.same("pivots 1", x.pivots(1), 16);
        CHECK.same("dummies", x.dummies(), 0);
        CHECK.same("minimal", x.minimal(), 2);
        AbsentRings y = votes(4, 2, 2, 1);
        CHECK.same("a dummy", y.dummies(), 4);
        CHECK.same("its swings", y.swings(2), 0);
        CHECK.same("its pivots", y.pivots(2), 0);
        CHECK.same("pivots", y.pivots(1), 50);
        CHECK.same("minimal", y.minimal(), 1);
        CHECK.same("nobody wins", votes(9, 2, 2, 1).minimal(), 0);
        CHECK.same("dummies if nobody wins", votes(9, 2, 2, 1).dummies(), 7);
        CHECK.same("quota 0: nobody wins first", votes(0, 2, 2).minimal(), 1);
        CHECK.same("all alone", votes(6, 3, 2, 1).minimal(), 1);
        CHECK.same("quota 0: swings", votes(0, 2, 2).swings(0), 0);
        CHECK.same("quota 0: pivots", votes(0, 2, 2).pivots(1), 0);
        for (int p : new int[] {-1, 3}) {
            CHECK.noIndex("swings " + p, () -> x.swings(p));
            CHECK.noIndex("pivots " + p, () -> x.pivots(p));
            CHECK.noIndex("split " + p, () -> x.split(p));
        }
    }

    private static void pivotsOfMany() {
        AbsentRings x = votes(5, 1, 1, 1, 1, 1, 1, 1, 1);
        CHECK.same("an eighth, rounded down", x.pivots(7), 12);
        CHECK.same("swings of many", x.swings(0), 35);
        CHECK.same("minimal of many", x.minimal(), 56);
        AbsentRings y = votes(20, 20, 1, 1, 1, 1, 1, 1, 1);
        CHECK.same("the great one", y.pivots(0), 100);
        CHECK.same("the small one", y.pivots(1), 0);
    }

    private static void dead() {
        AbsentRings x = votes(3, 2, 1, 1, 5);
        kill(x, 3);
        CHECK.same("swings of a dead one", x.swings(3), 0);
        CHECK.same("pivots of a dead one", x.pivots(3), 0);
        CHECK.same("split of a dead one", x.split(3), 0);
        CHECK.same("swings of others", x.swings(0), 3);
        CHECK.same("pivots of others", x.pivots(0), 66);
        CHECK.same("dummies", x.dummies(), 0);
        CHECK.same("minimal", x.minimal(), 2);
        CHECK.same("side", x.side(), 3);
        kill(x, 0);
        CHECK.same("dummies not dead", x.dummies(), 6);
        CHECK.same("no side", x.side(), -1);
        kill(x, 1);
        kill(x, 2);
        CHECK.same("all are dead: needed", x.needed(), 0);
        CHECK.same("all are dead: pivots", x.pivots(1), 0);
        CHECK.same("all are dead: leaves", x.leaves(), -1);
        CHECK.same("all are dead: dummies", x.dummies(), 0);
    }

    private static void least() {
        CHECK.same("one of two", votes(4, 2, 4, 5).side(), 2);
        CHECK.same("two", votes(6, 2, 3, 4).side(), 5);
        CHECK.same("fewest first", votes(6, 2, 4, 1, 6).side(), 8);
        CHECK.same("quota 0", votes(0, 2).side(), 0);
        CHECK.same("none", votes(3, 2).side(), -1);
        CHECK.same("nobody", new AbsentRings().side(), -1);
        CHECK.same("nobody, quota 0", votes(0).side(), 0);
    }

    private static void splitAndLeaves() {
        AbsentRings x = votes(3, 2, 1, 1);
        // Swings 3, 1, 1: 60, 20, 20 of 100; votes 50, 25, 25.
        CHECK.same("split 0", x.split(0), 60);
        CHECK.same("split 1", x.split(1), 20);
        CHECK.same("nobody would leave", x.leaves(), -1);
        AbsentRings y = votes(2, 1, 1, 1);
        // Swings 2, 2, 2: 33 each, and 1 left goes to the first; sides of two have 66 of votes.
        CHECK.same("split 0", y.split(0), 34);
        CHECK.same("split 1", y.split(1), 33);
        CHECK.same("split 2", y.split(2), 33);
        CHECK.same("nobody would leave", y.leaves(), -1);
        AbsentRings z = votes(11, 10, 9, 1, 1);
        // Of 0 with 1, 2, 3, 12, 13 and 23: 6; of 1 with 0 and with 23: 2; of 2 with 0 and 13: 2; of 3 so, too.
        CHECK.same("swings 0", z.swings(0), 6);
        CHECK.same("swings 1", z.swings(1), 2);
        CHECK.same("split 0", z.split(0), 52);
        CHECK.same("split 3", z.split(3), 16);
        int sum = z.split(0) + z.split(1) + z.split(2) + z.split(3);
        CHECK.same("together", sum, 100);
        // 0 and 1 have 19 of 21 votes, 90 hundredths, and 68 by swings.
        CHECK.same("0 and 1 would leave", z.leaves(), 3);
        // Swings 2, 2, 6, 2: what is left goes to the third one.
        AbsentRings u = votes(11, 1, 1, 10, 9);
        CHECK.same("split 0", u.split(0), 16);
        CHECK.same("split 2", u.split(2), 52);
        AbsentRings v = votes(3, 3, 1, 1);
        CHECK.same("one has all", v.split(0), 100);
        CHECK.same("the others nothing", v.split(1) + v.split(2), 0);
        CHECK.same("fewest first", votes(1, 1, 2, 2).leaves(), 2);
    }

    private static void withoutVotes() {
        AbsentRings x = votes(0, 0, 0);
        CHECK.same("split", x.split(0) + x.split(1), 0);
        CHECK.same("leaves", x.leaves(), -1);
        CHECK.same("quota 0 with votes", votes(0, 2, 1).leaves(), 1);
        CHECK.same("no side wins", votes(4, 2, 1).leaves(), -1);
        CHECK.same("one vote in all", votes(0, 0, 1).leaves(), 2);
        CHECK.same("split if none wins", votes(4, 2, 1).split(0), 0);
    }

    private static AbsentRings people(int many) {
        StringBuilder text = new StringBuilder("limit 1;walk 0;dish 00000000");
        for (int i = 0; i < many; i++) {
            text.append(";person weight 1 at 0");
        }
        return Check.told(text.toString());
    }

    private static void brides() {
        AbsentRings x = people(4);
        int[] keen = {0, 5, 9, 0, 4, 0, 0, 9, 9, 0, 0, 1, 0, 9, 0, 0};
        // 0 and 1: 9; 0 and 2: 18; 1 and 3: 18; 2 on 3 alone.
        CHECK.same("how much", Check.tape(x, keen).brides(-1), 36);
        CHECK.same("0", Check.tape(x, keen).brides(0), 2);
        CHECK.same("1", Check.tape(x, keen).brides(1), 3);
        CHECK.same("2", Check.tape(x, keen).brides(2), 0);
        CHECK.same("3", Check.tape(x, keen).brides(3), 1);
        x.serve(0);
        x.off(2);
        CHECK.same("without a dead one", Check.tape(x, keen).brides(-1), 18);
        CHECK.same("a dead one", Check.tape(x, keen).brides(2), -1);
        CHECK.same("none for 0", Check.tape(x, keen).brides(0), -1);
        CHECK.same("nobody keen", Check.tape(x, new int[16]).brides(-1), 0);
        CHECK.same("nobody keen: none", Check.tape(x, new int[16]).brides(1), -1);
        CHECK.same("of nobody", new AbsentRings().brides(-1), 0);
        AbsentRings y = people(2);
        CHECK.same("one keen alone", Check.tape(y, 0, 9, 0, 0).brides(-1), 0);
        CHECK.same("the other one alone", Check.tape(y, 0, 0, 9, 0).brides(-1), 0);
        CHECK.same("and none promised", Check.tape(y, 0, 0, 9, 0).brides(0), -1);
        CHECK.same("nor the other one", Check.tape(y, 0, 0, 9, 0).brides(1), -1);
        AbsentRings z = people(4);
        // 0 and 2: 18; 2 and 3: 16, which would be the best without 0; 1 is keen on none.
        int[] chain = {0, 0, 9, 0, 0, 0, 0, 0, 9, 0, 0, 8, 0, 0, 8, 0};
        CHECK.same("3 is left without 2", Check.tape(z, chain).brides(3), -1);
    }

    private static void bridesFirstWay() {
        AbsentRings x = people(4);
        int[] all = new int[16];
        java.util.Arrays.fill(all, 1);
        // 01 23, 02 13 and 03 12 are alike: the first is by the least mate of 0.
        CHECK.same("most", Check.tape(x, all).brides(-1), 4);
        CHECK.same("0", Check.tape(x, all).brides(0), 1);
        CHECK.same("2", Check.tape(x, all).brides(2), 3);
        AbsentRings y = people(3);
        // 1 and 2 alike with 0 and 1, and 0 and 2: none is the least for 0.
        int[] three = new int[9];
        java.util.Arrays.fill(three, 3);
        CHECK.same("none for 0", Check.tape(y, three).brides(0), -1);
        CHECK.same("1", Check.tape(y, three).brides(1), 2);
        AbsentRings z = people(8);
        int[] eight = new int[64];
        java.util.Arrays.fill(eight, 9);
        CHECK.same("eight", Check.tape(z, eight).brides(-1), 72);
        CHECK.same("the last one", Check.tape(z, eight).brides(7), 6);
    }

    private static void rather() {
        AbsentRings x = people(4);
        int[] keen = {0, 5, 9, 0, 4, 0, 0, 9, 9, 0, 0, 1, 0, 9, 0, 0};
        CHECK.same("all with none", Check.tape(x, keen).rather(), 3);
        x.promise(0, 1);
        CHECK.same("promised, but not each to the other", Check.tape(x, keen).rather(), 3);
        x.promise(1, 0);
        CHECK.same("0 2 and 1 3 would", Check.tape(x, keen).rather(), 2);
        x.promise(1, 3);
        x.promise(3, 1);
        CHECK.same("0 2 alone", Check.tape(x, keen).rather(), 1);
        x.promise(0, 2);
        x.promise(2, 0);
        CHECK.same("none", Check.tape(x, keen).rather(), 0);
        x.serve(0);
        x.off(2);
        CHECK.same("a dead one is still its one", Check.tape(x, keen).rather(), 0);
        x.promise(0, -1);
        CHECK.same("a dead one does not count", Check.tape(x, keen).rather(), 0);
        x.promise(1, -1);
        CHECK.same("0 1 and 1 3", Check.tape(x, keen).rather(), 2);
        AbsentRings y = people(2);
        y.promise(0, 1);
        y.promise(1, 0);
        CHECK.same("with each other, and not keen", Check.tape(y, 0, 5, 5, 0).rather(), 0);
        CHECK.same("of nobody", new AbsentRings().rather(), 0);
    }

    private static void keenTape() {
        AbsentRings x = people(2);
        for (int[] wrong : new int[][] {{}, {0, 1, 1}, {0, 1, 1, 0, 0}, {0, 10, 1, 0}, {0, 1, 255, 0}}) {
            CHECK.noArgument("brides", () -> Check.tape(x, wrong).brides(-1));
            CHECK.noArgument("brides 0", () -> Check.tape(x, wrong).brides(0));
            CHECK.noArgument("rather", () -> Check.tape(x, wrong).rather());
            CHECK.noIndex("2 ahead of the tape", () -> Check.tape(x, wrong).brides(2));
            CHECK.isFalse("the tape is used up", x.end(1));
        }
        CHECK.noIndex("-2", () -> Check.tape(x, 0, 1, 1, 0).brides(-2));
        CHECK.same("its own is not looked at", Check.tape(x, 9, 1, 1, 99).brides(-1), 2);
        CHECK.same("its own is not looked at", Check.tape(x, 200, 1, 1, 10).rather(), 1);
    }

    private static void circles() {
        AbsentRings x = people(5);
        CHECK.isFalse("to none", x.circle(0));
        x.promise(0, 1);
        x.promise(1, 2);
        CHECK.isFalse("not round", x.circle(0));
        CHECK.same("jilts", x.jilts(), 1);
        x.promise(2, 0);
        CHECK.isTrue("round", x.circle(0));
        CHECK.isTrue("round from 2", x.circle(2));
        CHECK.same("jilts all round", x.jilts(), 7);
        x.promise(3, 1);
        CHECK.isFalse("to a ring, not in it", x.circle(3));
        CHECK.same("no true pair", x.pairs(), 0);
        CHECK.same("jilts", x.jilts(), 15);
        x.promise(1, 0);
        x.promise(2, 4);
        x.promise(4, 2);
        CHECK.same("two true pairs", x.pairs(), 2);
        CHECK.isTrue("a ring of two", x.circle(4));
        CHECK.same("jilts", x.jilts(), 8);
        CHECK.noIndex("5", () -> x.circle(5));
        CHECK.noIndex("-1", () -> x.circle(-1));
        AbsentRings y = people(8);
        for (int p = 0; p < 8; p++) {
            y.promise(p, (p + 1) % 8);
        }
        CHECK.isTrue("a ring of eight", y.circle(5));
    }

    private static void heirs() {
        AbsentRings x = people(4);
        CHECK.same("none", x.heir(0), -1);
        x.promise(0, 2);
        CHECK.same("the first one", x.heir(2), 0);
        x.promise(3, 0);
        x.promise(1, 0);
        CHECK.same("the least", x.heir(0), 1);
        x.serve(0);
        x.off(1);
        CHECK.same("not the dead one", x.heir(0), 3);
        x.home(3);
        CHECK.same("at home too", x.heir(0), 3);
        x.off(0);
        CHECK.same("of a dead one", x.heir(0), 3);
        CHECK.noIndex("4", () -> x.heir(4));
        CHECK.noIndex("-1", () -> x.heir(-1));
    }
}
