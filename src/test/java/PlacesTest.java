/** Promises 8 to 10, 19 to 26 and 47: what is eaten, the law, roads, where one can be, lying rings, odds. */
public final class PlacesTest {
    private static final Check CHECK = new Check("PlacesTest");

    public static void main(String[] args) {
        eaten();
        eats();
        lawWords();
        lawJoins();
        road();
        far();
        meet();
        where();
        manyPaths();
        likely();
        next();
        apart();
        like();
        lying();
        odds();
        CHECK.finish();
    }

    private static void eaten() {
        AbsentRings x = Check.told("dish 01234567;dish 90000008");
        for (int place = 0; place < 8; place++) {
            CHECK.same("eaten 0 " + place, x.eaten(0, place), place);
        }
        CHECK.same("eaten 1 0", x.eaten(1, 0), 9);
        CHECK.same("eaten 1 7", x.eaten(1, 7), 8);
        CHECK.noIndex("dish 2", () -> x.eaten(2, 0));
        CHECK.noIndex("dish -1", () -> x.eaten(-1, 0));
        CHECK.noIndex("place 8", () -> x.eaten(0, 8));
        CHECK.noIndex("place -1", () -> x.eaten(0, -1));
        CHECK.noIndex("places most", () -> x.eaten(0, Integer.MAX_VALUE));
    }

    private static void eats() {
        AbsentRings x = Check.told("dish 01234567;person weight 9;person weight 8 at 3;promise 1 0");
        CHECK.same("without a law", x.eats(0, 5, 0), 5);
        Check.law(x, "more 3 if promised;less 4;more 1 if place > 4 and person < 1;off");
        CHECK.same("0 at 5", x.eats(0, 5, 0), 2);
        CHECK.same("1 at 5", x.eats(1, 5, 0), 4);
        CHECK.same("0 at 2: not below 0", x.eats(0, 2, 0), 0);
        CHECK.same("1 at 0", x.eats(1, 0, 0), 0);
        CHECK.noIndex("person 2", () -> x.eats(2, 0, 0));
        CHECK.noIndex("person -1", () -> x.eats(-1, 0, 0));
        CHECK.noIndex("place 8", () -> x.eats(0, 8, 0));
        CHECK.noIndex("place -1", () -> x.eats(0, -1, 0));
        CHECK.noIndex("dish 1", () -> x.eats(0, 0, 1));
        CHECK.noIndex("dish -1", () -> x.eats(0, 0, -1));
    }

    private static int holds(AbsentRings x, String condition) {
        Check.law(x, "more 1 if " + condition);
        return x.eats(1, 3, 1);
    }

    private static void lawWords() {
        AbsentRings x = Check.told("walk 0;dish 00000000;dish 00000000;night 40;person weight 9;"
                + "person weight 8 at 6 vote 7 legs 3;promise 1 0");
        x.nights(3);
        String[] words = {"person", "place", "dish", "cold", "vote", "weight", "night"};
        int[] due = {1, 3, 1, 3, 7, 8, 43};
        for (int i = 0; i < words.length; i++) {
            CHECK.same(words[i] + " >", holds(x, words[i] + ">" + (due[i] - 1)), 1);
            CHECK.same(words[i] + " not >", holds(x, words[i] + " > " + due[i]), 0);
            CHECK.same(words[i] + " <", holds(x, words[i] + "<" + (due[i] + 1)), 1);
            CHECK.same(words[i] + " not <", holds(x, words[i] + " < " + due[i]), 0);
        }
        CHECK.same("promised", holds(x, "promised"), 1);
        CHECK.same("three", holds(x, "three"), 1);
        Check.law(x, "more 1 if promised or three");
        CHECK.same("another one is neither", x.eats(0, 3, 1), 0);
        CHECK.same("a sum", holds(x, "night + vote + 2 > weight + 43"), 1);
        CHECK.same("another sum", holds(x, "1 + 2 + 3 < 3+2+1"), 0);
        CHECK.same("999", holds(x, "999 > 998"), 1);
    }

    private static void lawJoins() {
        AbsentRings x = Check.told("dish 00000000;dish 00000000;person weight 9;person weight 8");
        String t = "1<2";
        String f = "2<1";
        CHECK.same("and binds ahead of or", holds(x, t + " or " + t + " and " + f), 1);
        CHECK.same("and ahead of or, turned", holds(x, f + " and " + t + " or " + t), 1);
        CHECK.same("in brackets", holds(x, "(" + t + " or " + t + ") and " + f), 0);
        CHECK.same("not binds one atom", holds(x, "not " + t + " or " + t), 1);
        CHECK.same("not of brackets", holds(x, "not (" + t + " or " + t + ")"), 0);
        CHECK.same("not not", holds(x, "not not " + t), 1);
        CHECK.same("not and", holds(x, "not " + f + " and not " + f), 1);
        CHECK.same("all three", holds(x, t + " and " + t + " and " + f), 0);
        CHECK.same("any of three", holds(x, f + " or " + f + " or " + t), 1);
        CHECK.same("deep", holds(x, "1<2 and(2<1 or 1<2 and(2<1 or 1<2 and(2<1 or 1<2 and(2<1 or 1<2 and("
                + "2<1 or 1<2 and(2<1 or 1+1+1<1+1+2))))))"), 1);
    }

    private static void road() {
        AbsentRings x = Check.told("road 0 1;road 7 2");
        CHECK.isTrue("0 1", x.road(0, 1));
        CHECK.isTrue("1 0", x.road(1, 0));
        CHECK.isTrue("2 7", x.road(2, 7));
        CHECK.isFalse("0 2", x.road(0, 2));
        CHECK.noArgument("3 3", () -> x.road(3, 3));
        CHECK.noIndex("8 8", () -> x.road(8, 8));
        CHECK.noIndex("-1 0", () -> x.road(-1, 0));
        CHECK.noIndex("0 8", () -> x.road(0, 8));
        CHECK.noIndex("0 -1", () -> x.road(0, -1));
    }

    private static void far() {
        AbsentRings x = Check.told("road 0 1;road 1 2;road 2 3;road 3 4;road 4 5;road 5 6");
        CHECK.same("0 6", x.far(0, 6), 6);
        CHECK.same("6 0", x.far(6, 0), 6);
        CHECK.same("2 4", x.far(2, 4), 2);
        CHECK.same("3 3", x.far(3, 3), 0);
        CHECK.same("0 7", x.far(0, 7), -1);
        Check.text(x, "road 6 7").house();
        CHECK.same("0 7 by all places", x.far(0, 7), 7);
        Check.text(x, "road 0 5").house();
        CHECK.same("the other way round", x.far(0, 7), 3);
        CHECK.noIndex("8", () -> x.far(8, 0));
        CHECK.noIndex("-1", () -> x.far(0, -1));
    }

    private static void meet() {
        AbsentRings x = Check.told("limit 1;walk 0;dish 00000000;road 0 1;road 1 2;road 2 3;road 3 4;"
                + "person weight 1 at 0;person weight 1 at 4;person weight 1 at 3;person weight 1 at 0;"
                + "person weight 1;person weight 1 at 6");
        CHECK.same("four roads", x.meet(0, 1), 2);
        CHECK.same("three roads", x.meet(2, 0), 2);
        CHECK.same("one road", x.meet(1, 2), 1);
        CHECK.same("at one place", x.meet(0, 3), 0);
        CHECK.same("one at home", x.meet(0, 4), -1);
        CHECK.same("the other one at home", x.meet(4, 0), -1);
        CHECK.same("no way", x.meet(0, 5), -1);
        CHECK.noArgument("both are one", () -> x.meet(4, 4));
        CHECK.noIndex("6", () -> x.meet(6, 6));
        CHECK.noIndex("6 and 0", () -> x.meet(6, 0));
        CHECK.noIndex("-1 and 0", () -> x.meet(-1, 0));
        CHECK.noIndex("-1", () -> x.meet(0, -1));
        x.serve(0);
        x.off(3);
        CHECK.same("a dead one", x.meet(0, 3), -1);
    }

    private static void where() {
        AbsentRings x = Check.told("road 0 1;road 1 2;road 2 3;dish 01120000;dish 10010000");
        CHECK.same("nothing told", Check.tape(x).where(false), 255);
        CHECK.same("nothing told: paths", Check.tape(x).where(true), 8);
        CHECK.same("1 of dish 0", Check.tape(x, 0, 1).where(false), 6);
        CHECK.same("its paths", Check.tape(x, 0, 1).where(true), 6);
        CHECK.same("then 2", Check.tape(x, 0, 1, 0, 2).where(false), 8);
        // To 3 from 2 alone (from 1 there is no road, at 3 itself 2 is eaten), and to 2 by 1, 2 and 3.
        CHECK.same("its paths", Check.tape(x, 0, 1, 0, 2).where(true), 3);
        CHECK.same("the other dish", Check.tape(x, 0, 1, 1, 1).where(false), 9);
        CHECK.same("never", Check.tape(x, 0, 9).where(false), 0);
        CHECK.same("never: paths", Check.tape(x, 0, 9, 0, 1).where(true), 0);
        Check.law(x, "more 5");
        CHECK.same("no law", Check.tape(x, 0, 1).where(false), 6);
        for (int[] wrong : new int[][] {{0}, {0, 1, 0}, {2, 1}, {255, 1}, {0, 10}, {0, 255}, {0, 1, 0, 10},
            {0, 1, 2, 1}, new int[42]}) {
            Check.tape(x, wrong);
            CHECK.noArgument("where", () -> x.where(false));
            CHECK.isFalse("the tape is used up", x.end(1));
            Check.tape(x, wrong);
            CHECK.noArgument("paths", () -> x.where(true));
            Check.tape(x, wrong);
            CHECK.noArgument("likely", () -> x.likely());
            Check.tape(x, wrong);
            CHECK.noArgument("next", () -> x.next());
            CHECK.isFalse("the tape is used up", x.end(1));
        }
        CHECK.same("twenty rows", Check.tape(x, new int[40]).where(false), 241);
        AbsentRings y = new AbsentRings();
        Check.tape(y, 0, 0);
        CHECK.noArgument("without dishes", () -> y.where(false));
    }

    private static void manyPaths() {
        AbsentRings x = Check.told("dish 00000000;road 0 1;road 0 2;road 0 3;road 0 4;road 0 5;road 0 6;road 0 7;"
                + "road 1 2;road 1 3;road 1 4;road 1 5;road 1 6;road 1 7", "road 2 3;road 2 4;road 2 5;road 2 6;"
                + "road 2 7;road 3 4;road 3 5;road 3 6;road 3 7;road 4 5;road 4 6;road 4 7;road 5 6", "road 5 7");
        CHECK.same("without 6 7: 6 by 8 and 2 by 7", Check.tape(x, new int[2]).where(true), 62);
        CHECK.same("without 6 7: not all alike", Check.tape(x, new int[40]).likely(), 0);
        Check.text(x, "road 6 7").house();
        CHECK.same("8 by 8 by 8 by 8", Check.tape(x, new int[6]).where(true), 4096);
        CHECK.same("9999 at most", Check.tape(x, new int[8]).where(true), 9999);
        CHECK.same("8 to the 21st", Check.tape(x, new int[40]).where(true), 9999);
        CHECK.same("and all places", Check.tape(x, new int[40]).where(false), 255);
        CHECK.same("of several the least", Check.tape(x, new int[40]).likely(), 0);
    }

    private static void likely() {
        AbsentRings x = Check.told("road 4 5;road 5 6;road 5 7;dish 00000001;dish 10000000");
        CHECK.same("nothing told", Check.tape(x).likely(), 0);
        CHECK.same("the one with most roads", Check.tape(x, 0, 0).likely(), 5);
        CHECK.same("there alone", Check.tape(x, 0, 1).likely(), 7);
        CHECK.same("none", Check.tape(x, 0, 5).likely(), -1);
        // 20 nights of staying about: far more than 9999 paths, told apart all the same.
        int[] rows = new int[40];
        rows[39] = 1;
        CHECK.same("counted on", Check.tape(x, rows).likely(), 7);
        rows[39] = 0;
        CHECK.same("counted on to the end", Check.tape(x, rows).likely(), 5);
    }

    private static void next() {
        AbsentRings x = Check.told("road 0 1;road 1 2;dish 00000000;dish 00100000;dish 12312312;dish 32132132");
        CHECK.same("of several the least", Check.tape(x).next(), 2);
        // At 2: then at 1 or 2, which dish 1 tells apart as well as dishes 2 and 3.
        CHECK.same("behind", Check.tape(x, 1, 1).next(), 1);
        CHECK.same("none, as it can be nowhere", Check.tape(x, 1, 5).next(), -1);
        AbsentRings y = Check.told("dish 00000001;dish 00000000");
        CHECK.same("one place alone", Check.tape(y, 0, 1).next(), -1);
        CHECK.same("dishes that part nothing", Check.tape(y, 0, 0).next(), 0);
        AbsentRings z = new AbsentRings();
        CHECK.same("without dishes", z.next(), -1);
        // At 0 or 1: dish 0 does not tell them apart, dish 1 does.
        AbsentRings v = Check.told("road 0 1;dish 00000009;dish 90111111");
        CHECK.same("the gate counts, too", Check.tape(v, 1, 9).next(), 1);
    }

    private static void apart() {
        AbsentRings x = Check.told("dish 00001111");
        CHECK.same("not by one", x.apart(), -1);
        Check.text(x, "dish 00110011;dish 00000000").house();
        CHECK.same("not by two", x.apart(), -1);
        Check.text(x, "dish 01010101").house();
        CHECK.same("by three", x.apart(), 11);
        Check.text(x, "dish 01230123").house();
        CHECK.same("by two", x.apart(), 17);
        Check.text(x, "dish 76543210").house();
        CHECK.same("by one", x.apart(), 32);
        CHECK.same("of none", new AbsentRings().apart(), -1);
        AbsentRings y = Check.told("dish 01234567;dish 12345670");
        CHECK.same("of several the least", y.apart(), 1);
    }

    private static void like() {
        AbsentRings x = Check.told("dish 00000000;dish 01234567;dish 00112233;dish 55555559");
        CHECK.same("all", x.like(0), 28);
        CHECK.same("none", x.like(1), 0);
        CHECK.same("four", x.like(2), 4);
        CHECK.same("all but one", x.like(3), 21);
        CHECK.noIndex("4", () -> x.like(4));
        CHECK.noIndex("-1", () -> x.like(-1));
    }

    private static void lying() {
        AbsentRings x = Check.told("dish 01234567;dish 70000000;person weight 1 at 3 legs 3;person weight 1 at 3;"
                + "person weight 1 legs 3");
        CHECK.same("as it eats", Check.tape(x, 3, 0).lying(0), 0);
        CHECK.same("in one", Check.tape(x, 4, 0).lying(0), 1);
        CHECK.same("in both", Check.tape(x, 99, 1).lying(0), 2);
        CHECK.same("on four legs as it eats", Check.tape(x, 3, 0).lying(1), 0);
        CHECK.same("on four legs it cannot", Check.tape(x, 3, 1).lying(1), -1);
        CHECK.noState("at home", () -> Check.tape(x, 3, 1).lying(2));
        CHECK.noArgument("a byte ahead of home", () -> Check.tape(x, 3, 100).lying(2));
        CHECK.noArgument("too few", () -> Check.tape(x, 3).lying(0));
        CHECK.noArgument("too many", () -> Check.tape(x, 3, 0, 0).lying(0));
        CHECK.noArgument("a byte of 255", () -> Check.tape(x, 255, 0).lying(0));
        CHECK.noIndex("3", () -> Check.tape(x, 3).lying(3));
        CHECK.isFalse("the tape is used up", x.end(1));
        CHECK.noIndex("-1", () -> Check.tape(x, 3, 0).lying(-1));
        Check.law(x, "more 2");
        CHECK.same("by the law", Check.tape(x, 5, 2).lying(0), 0);
        AbsentRings y = Check.told("person weight 1 at 3");
        CHECK.same("without dishes", y.lying(0), 0);
    }

    private static void odds() {
        AbsentRings x = Check.told("walk 33;road 0 1;road 1 2;road 1 3;person weight 1 at 1;person weight 1 at 7;"
                + "person weight 1");
        CHECK.same("no night", x.odds(0, 0, 1), 10000);
        CHECK.same("no night elsewhere", x.odds(0, 0, 0), 0);
        // 3300 go, 1100 to each of three; 6700 stay.
        CHECK.same("one night", x.odds(0, 1, 1), 6700);
        CHECK.same("one night to each", x.odds(0, 1, 3), 1100);
        // Of 6700 go 2211: 737 to each; of each 1100 go 363 back: 4489 and 1089.
        CHECK.same("two nights", x.odds(0, 2, 1), 4489 + 1089);
        CHECK.same("two nights to each", x.odds(0, 2, 0), 737 + 737);
        // Of 5578 go 1840, 613 to each, 3739 stay; of each 1474 go 486, 988 stay.
        CHECK.same("three nights", x.odds(0, 3, 1), 3739 + 3 * 486);
        CHECK.same("three nights to each", x.odds(0, 3, 2), 988 + 613);
        CHECK.same("without a road all stays", x.odds(1, 4, 7), 10000);
        CHECK.noState("at home", () -> x.odds(2, 1, 1));
        CHECK.noArgument("five nights ahead of home", () -> x.odds(2, 5, 1));
        CHECK.noArgument("-1 nights", () -> x.odds(0, -1, 1));
        CHECK.noIndex("person ahead of nights", () -> x.odds(3, 5, 1));
        CHECK.noIndex("place 8", () -> x.odds(0, 5, 8));
        CHECK.noIndex("place -1", () -> x.odds(2, 1, -1));
        CHECK.noIndex("person -1", () -> x.odds(-1, 1, 1));
    }
}
