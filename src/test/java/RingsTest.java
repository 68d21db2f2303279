/** Promises 43 to 46 and 48 to 55: chairs and rings, iron, the cook, starving, rings alike, nights tried out. */
public final class RingsTest {
    private static final Check CHECK = new Check("RingsTest");

    public static void main(String[] args) {
        chairsAndRings();
        lasts();
        rests();
        coldest();
        starves();
        alike();
        fills();
        ahead();
        trial();
        span();
        CHECK.finish();
    }

    private static void chairsAndRings() {
        AbsentRings x = Check.told("limit 1;walk 0;dish 00000000;person weight 9;person weight 20 at 0;"
                + "person weight 30 at 1;person weight 30 at 2;person weight 99");
        CHECK.same("chairs", x.chairs(), 2);
        CHECK.same("empty", x.empty(), 14);
        CHECK.same("heaviest", x.heaviest(), 2);
        x.serve(0);
        x.off(2);
        CHECK.same("chairs: a dead one is not at home", x.chairs(), 2);
        CHECK.same("empty: its ring lies no more", x.empty(), 10);
        CHECK.same("heaviest of the others", x.heaviest(), 3);
        x.off(3);
        x.home(1);
        CHECK.same("chairs", x.chairs(), 3);
        CHECK.same("empty", x.empty(), 0);
        CHECK.same("heaviest: none", x.heaviest(), -1);
        CHECK.same("coldest: none", x.coldest(), -1);
        x.rise(3);
        CHECK.same("chairs", x.chairs(), 4);
        AbsentRings z = Check.told("walk 0;dish 00000000;person weight 9 at 3;person weight 8 at 2");
        CHECK.same("the first one's ring", z.empty(), 3);
        CHECK.same("the first one's is heaviest", z.heaviest(), 0);
        CHECK.same("the first one is coldest", z.coldest(), 0);
        AbsentRings y = new AbsentRings();
        CHECK.same("of nobody", y.chairs() + y.empty() + y.lasts() + y.alike(), 0);
    }

    private static void lasts() {
        AbsentRings x = Check.told("iron 30;person weight 10;person weight 50 at 3;person weight 20;person weight 1");
        CHECK.same("just two", x.lasts(), 2);
        Check.text(x, "iron 31").house();
        CHECK.same("three", x.lasts(), 3);
        Check.text(x, "iron 29").house();
        CHECK.same("none behind the one that cannot", x.lasts(), 1);
        Check.text(x, "iron 0").house();
        CHECK.same("none", x.lasts(), 0);
    }

    private static void rests() {
        AbsentRings x = Check.told("limit 1;walk 0;dish 05000000;road 0 1;person weight 1 at 0 vote 7;"
                + "person weight 1 at 0 vote 8;person weight 1 at 0 vote 9;person weight 1 at 1 vote 7;"
                + "person weight 1 at 6 vote 0;person weight 1");
        CHECK.same("turns back and is served", x.rests(0), 1);
        CHECK.same("both", x.rests(1), 9);
        CHECK.same("goes on and is not", x.rests(2), 8);
        CHECK.same("what is eaten comes to both alike", x.rests(3), 9);
        CHECK.same("no way home", x.rests(4), 8);
        CHECK.noState("at home", () -> x.rests(5));
        CHECK.noIndex("6", () -> x.rests(6));
        CHECK.noIndex("-1", () -> x.rests(-1));
        x.serve(0);
        x.off(0);
        CHECK.noState("dead", () -> x.rests(0));
        AbsentRings y = Check.told("person weight 1 at 0;person weight 1");
        CHECK.same("without dishes", y.rests(0), -1);
        CHECK.noState("without dishes at home", () -> y.rests(1));
    }

    private static void coldest() {
        AbsentRings x = Check.told("limit 2;walk 0;dish 10000000;dish 00000000;person weight 1;person weight 1 at 0;"
                + "person weight 1 at 1;person weight 1 at 2");
        CHECK.same("of several the least", x.coldest(), 1);
        x.serve(0);
        CHECK.same("of two", x.coldest(), 2);
        x.serve(1);
        x.off(2);
        CHECK.same("not a dead one", x.coldest(), 3);
    }

    private static void starves() {
        AbsentRings x = Check.told("limit 3;walk 100;road 1 2;dish 01000000;dish 01000000;person weight 1 at 1;"
                + "person weight 1 at 2;person weight 1");
        CHECK.same("one who eats", x.starves(0), -1);
        CHECK.same("one who does not, without going", x.starves(1), 3);
        CHECK.same("one at home", x.starves(2), -1);
        Check.law(x, "off if night > 59 and place > 1");
        CHECK.same("by the night", x.starves(1), 60);
        CHECK.same("not at 1", x.starves(0), -1);
        Check.law(x, "off if night > 60");
        CHECK.same("61 are too many", x.starves(1), -1);
        Check.law(x, "less 1 if night > 4;off if cold > 1");
        CHECK.same("by the law from night 5 on", x.starves(0), 7);
        Check.law(x, "off");
        CHECK.same("1 at least", x.starves(0), 1);
        x.off(0);
        CHECK.same("dead", x.starves(0), -1);
        CHECK.same("nothing stays", x.count(4) + x.person(1, 6), 0);
        CHECK.noIndex("3", () -> x.starves(3));
        CHECK.noIndex("-1", () -> x.starves(-1));
        AbsentRings y = Check.told("limit 1;person weight 1 at 1");
        CHECK.same("without dishes", y.starves(0), -1);
    }

    private static void alike() {
        AbsentRings x = Check.told("person weight 5 vote 2;person weight 5 at 3 vote 2;person weight 5 vote 2 legs 3;"
                + "person weight 5 vote 3;person weight 6 vote 2;person weight 5 vote 2");
        CHECK.same("three are alike", x.alike(), 3);
        x.vote(3, 2);
        CHECK.same("four", x.alike(), 6);
    }

    private static void fills() {
        AbsentRings x = Check.told("limit 1;walk 0;dish 01234567;dish 00000000;person weight 5 at 2;"
                + "person weight 5 at 7;person weight 5");
        CHECK.same("0", x.fills(0), 9);
        CHECK.same("1", x.fills(1), 0);
        Check.law(x, "less 3;more 9 if dish > 0;off");
        CHECK.same("by the law", x.fills(0), 4);
        CHECK.same("by the law 1", x.fills(1), 12);
        x.off(1);
        CHECK.same("without a dead one", x.fills(1), 6);
        CHECK.noIndex("2", () -> x.fills(2));
        CHECK.noIndex("-1", () -> x.fills(-1));
    }

    private static void ahead() {
        AbsentRings x = Check.told("limit 4;walk 100;road 1 2;dish 01000000;dish 00000000;person weight 1 at 1;"
                + "person weight 1 at 2;person weight 1");
        CHECK.same("none", x.ahead(1, 0), 0);
        CHECK.same("7", x.ahead(1, 7), 7);
        CHECK.same("60", x.ahead(1, 60), 60);
        CHECK.same("one who eats each other night", x.ahead(0, 3), 0);
        CHECK.same("one who did not last night", x.ahead(0, 4), 1);
        CHECK.same("one at home", x.ahead(2, 5), 0);
        CHECK.noArgument("61", () -> x.ahead(1, 61));
        CHECK.noArgument("-1", () -> x.ahead(1, -1));
        CHECK.noIndex("3", () -> x.ahead(3, 99));
        CHECK.noIndex("-1", () -> x.ahead(-1, 1));
        CHECK.same("nothing stays", x.count(4) + x.count(11) + x.count(12), 0);
        CHECK.same("no draws", x.seed(1), 1);
        Check.text(x, "walk 0").house();
        x.nights(60);
        x.nights(30);
        CHECK.same("99 at most", x.ahead(1, 60), 99);
        x.off(1);
        CHECK.same("a dead one", x.ahead(1, 5), 90);
    }

    private static void trial() {
        AbsentRings x = Check.told("limit 3;walk 100;road 0 1;dish 10000000;person weight 1 at 0;"
                + "person weight 1 at 1;person weight 1 at 5;person weight 1");
        CHECK.same("0 nights", x.trial(0, false), 1);
        CHECK.same("1 night: the other one", x.trial(1, false), 1);
        CHECK.same("cold", x.trial(2, true), 0);
        CHECK.same("cold for the limit", x.trial(3, true), 4);
        CHECK.same("and longer", x.trial(60, true), 4);
        CHECK.noArgument("61", () -> x.trial(61, true));
        CHECK.noArgument("-1", () -> x.trial(-1, false));
        CHECK.same("nothing stays", x.count(4) + x.count(11) + x.count(12) + x.person(2, 6), 0);
        CHECK.same("no draws stay", x.seed(1), 1);
        AbsentRings y = Check.told("limit 1;walk 0;dish 00000000;person weight 1 at 0;person weight 1 at 0");
        y.serve(0);
        y.off(1);
        CHECK.same("not a dead one", y.trial(0, true), 1);
        CHECK.same("not a dead one at 0", y.trial(0, false), 1);
        // By hand: SEED 1 draws 16838, 5758: below 50, and to place 1 or 2 by 5758 % 2 = 0.
        AbsentRings z = Check.told("walk 50;road 0 1;road 0 2;dish 00000000;person weight 1 at 0");
        CHECK.same("draws", z.trial(1, false), 0);
        z.seed(2);
        int before = z.trial(9, false);
        z.nights(9);
        CHECK.same("as the nights themselves", z.person(0, 0) == 0 ? 1 : 0, before);
    }

    private static int coldFrom(String house, int seed, int n) {
        AbsentRings z = Check.told(house);
        z.seed(seed);
        z.nights(n);
        return z.person(0, 6) + z.person(1, 6);
    }

    /** For many houses, as some have their least or greatest from SEED 6, and some would have it from 7. */
    private static void spanOfSix() {
        int sixth = 0;
        int seventh = 0;
        for (int walk = 20; walk < 100; walk += 3) {
            String house = "walk " + walk + ";road 0 1;road 1 2;road 0 3;dish 10000000;person weight 1 at 0;"
                    + "person weight 1 at 2";
            int least = Integer.MAX_VALUE;
            int most = -1;
            for (int seed = 1; seed <= 6; seed++) {
                int sum = coldFrom(house, seed, 20);
                sixth += seed == 6 && (sum < least || sum > most) ? 1 : 0;
                least = Math.min(least, sum);
                most = Math.max(most, sum);
            }
            int beyond = coldFrom(house, 7, 20);
            seventh += beyond < least || beyond > most ? 1 : 0;
            CHECK.same("least by " + walk, Check.told(house).span(20, false), least);
            CHECK.same("most by " + walk, Check.told(house).span(20, true), most);
        }
        CHECK.isTrue("seeds 6 and 7 matter", sixth > 0 && seventh > 0);
    }

    private static void span() {
        AbsentRings x = Check.told("walk 0;dish 00000000;person weight 1 at 0;person weight 1 at 5;person weight 1");
        CHECK.same("without walking: least", x.span(7, false), 14);
        CHECK.same("without walking: most", x.span(7, true), 14);
        CHECK.same("none", x.span(0, true), 0);
        CHECK.noArgument("61", () -> x.span(61, true));
        CHECK.noArgument("-1", () -> x.span(-1, false));
        AbsentRings y = Check.told("walk 50;road 0 1;road 1 2;dish 10000000;person weight 1 at 0;person weight 1 at 1;"
                + "person weight 1 at 2");
        y.seed(12345);
        int least = Integer.MAX_VALUE;
        int most = 0;
        for (int seed = 1; seed <= 6; seed++) {
            AbsentRings z = Check.told("walk 50;road 0 1;road 1 2;dish 10000000;person weight 1 at 0;"
                    + "person weight 1 at 1;person weight 1 at 2");
            z.seed(seed);
            z.nights(10);
            int sum = z.person(0, 6) + z.person(1, 6) + z.person(2, 6);
            least = Math.min(least, sum);
            most = Math.max(most, sum);
        }
        CHECK.isTrue("the seeds differ", least < most);
        CHECK.same("least", y.span(10, false), least);
        CHECK.same("most", y.span(10, true), most);
        CHECK.same("nothing stays", y.count(4) + y.count(11) + y.count(12), 0);
        CHECK.same("the seed stays", y.seed(1), 12345);
        spanOfSix();
        CHECK.same("of nobody", new AbsentRings().span(60, false), 0);
    }
}
