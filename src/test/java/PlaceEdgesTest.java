import java.util.Arrays;

/** Edges of what is eaten, roads, where one can be, lying rings and odds: promises 8 to 10, 19 to 26 and 47. */
public final class PlaceEdgesTest {
    private static final Check CHECK = new Check("PlaceEdgesTest");
    private static final int[] FAR_OFF = {Integer.MIN_VALUE, Integer.MIN_VALUE + 1, -256, 256, Integer.MAX_VALUE};
    private static final String[] ALL_ROADS = {
        "road 0 1;road 0 2;road 0 3;road 0 4;road 0 5;road 0 6;road 0 7;road 1 2;road 1 3;road 1 4;road 1 5;road 1 6;"
            + "road 1 7;road 2 3",
        "road 2 4;road 2 5;road 2 6;road 2 7;road 3 4;road 3 5;road 3 6;road 3 7;road 4 5;road 4 6;road 4 7;road 5 6;"
            + "road 5 7;road 6 7"};

    public static void main(String[] args) {
        eaten();
        eats();
        road();
        far();
        meet();
        meetOfThoseAway();
        whereOfNothing();
        whereByGoing();
        whereTape();
        whereTapeIsUsedUp();
        paths();
        likely();
        next();
        nextParts();
        apart();
        like();
        lying();
        lyingTape();
        odds();
        oddsRoundedDown();
        oddsRefused();
        CHECK.finish();
    }

    private static void eaten() {
        CHECK.says(8, "EATEN of a DISH at a PLACE.");
        AbsentRings x = Check.told("dish 98765432;dish 00000001;person weight 1 at 0");
        Check.law(x, "more 30");
        CHECK.same("first dish, first place, no law", x.eaten(0, 0), 9);
        CHECK.same("first dish, last place", x.eaten(0, 7), 2);
        CHECK.same("last dish, first place", x.eaten(1, 0), 0);
        CHECK.same("last dish, last place", x.eaten(1, 7), 1);
        CHECK.noIndex("dish 2", () -> x.eaten(2, 0));
        CHECK.noIndex("dish -1", () -> x.eaten(-1, 0));
        CHECK.noIndex("place 8", () -> x.eaten(0, 8));
        CHECK.noIndex("place -1 of the second dish", () -> x.eaten(1, -1));
        for (int far : FAR_OFF) {
            CHECK.noIndex("dish " + far, () -> x.eaten(far, 0));
            CHECK.noIndex("place " + far, () -> x.eaten(0, far));
        }
        AbsentRings y = new AbsentRings();
        CHECK.noIndex("without dishes", () -> y.eaten(0, 0));
    }

    private static void eats() {
        CHECK.says(9, "What a PERSON EATS of a DISH, if it was at a PLACE.");
        AbsentRings x = Check.told("walk 0;limit 1;dish 01234567;dish 70000000;person weight 1 at 3;person weight 1");
        Check.law(x, "more 2 if place > 5 and dish < 1;less 3 if place < 5 and person < 1;more 9 if cold > 0;off");
        CHECK.same("where it is not", x.eats(0, 7, 0), 9);
        CHECK.same("just 0", x.eats(0, 3, 0), 0);
        CHECK.same("just 1", x.eats(0, 4, 0), 1);
        CHECK.same("0 at least", x.eats(0, 0, 0), 0);
        CHECK.same("one at home", x.eats(1, 6, 0), 8);
        x.serve(1);
        x.off(0);
        CHECK.same("a dead one, cold", x.eats(0, 7, 1), 9);
        for (int far : new int[] {-1, 2, 8, Integer.MIN_VALUE, Integer.MAX_VALUE}) {
            CHECK.noIndex("person " + far, () -> x.eats(far, 0, 0));
            CHECK.noIndex("dish " + far, () -> x.eats(0, 0, far));
            if (far != 2) {
                CHECK.noIndex("place " + far, () -> x.eats(0, far, 0));
            }
        }
        AbsentRings y = Check.told("person weight 1");
        CHECK.noIndex("without dishes", () -> y.eats(0, 0, 0));
        AbsentRings z = Check.told("dish 00000000");
        CHECK.noIndex("without people", () -> z.eats(0, 0, 0));
    }

    private static void road() {
        CHECK.says(10, "Whether there is a ROAD. IllegalArgumentException: both are one.");
        AbsentRings x = Check.told("road 7 0;road 3 4");
        CHECK.isTrue("0 7", x.road(0, 7));
        CHECK.isTrue("7 0", x.road(7, 0));
        CHECK.isTrue("4 3", x.road(4, 3));
        CHECK.isFalse("3 5", x.road(3, 5));
        for (int place = 0; place < 8; place++) {
            int both = place;
            CHECK.noArgument("both are " + place, () -> x.road(both, both));
        }
        CHECK.says(0, "IndexOutOfBoundsException: there is no such PERSON, PLACE, DISH.");
        CHECK.noIndex("8 and 8", () -> x.road(8, 8));
        CHECK.noIndex("-1 and -1", () -> x.road(-1, -1));
        CHECK.noIndex("0 and 8", () -> x.road(0, 8));
        CHECK.noIndex("0 and -1", () -> x.road(0, -1));
        CHECK.noIndex("8 and 0", () -> x.road(8, 0));
        CHECK.noIndex("-1 and 0", () -> x.road(-1, 0));
        for (int far : FAR_OFF) {
            CHECK.noIndex("far off " + far, () -> x.road(far, far));
        }
    }

    private static void far() {
        CHECK.says(0, "FAR of two PLACES: by how many ROADS; none.");
        CHECK.says(19, "FAR; NONE.");
        AbsentRings x = new AbsentRings();
        for (int place = 0; place < 8; place++) {
            CHECK.same("a place of itself", x.far(place, place), 0);
            CHECK.same("no road", x.far(place, (place + 1) % 8), -1);
        }
        Check.text(x, "road 7 6;road 6 5;road 5 4;road 4 3;road 3 2;road 2 1;road 1 0").house();
        CHECK.same("by all seven", x.far(0, 7), 7);
        CHECK.same("and back", x.far(7, 0), 7);
        CHECK.same("one", x.far(3, 4), 1);
        Check.text(x, "road 7 0").house();
        CHECK.same("round: 0 7", x.far(0, 7), 1);
        CHECK.same("round: 0 4 either way", x.far(0, 4), 4);
        CHECK.same("round: 0 5", x.far(0, 5), 3);
        CHECK.noIndex("8", () -> x.far(8, 8));
        CHECK.noIndex("0 8", () -> x.far(0, 8));
        CHECK.noIndex("-1", () -> x.far(-1, -1));
        CHECK.noIndex("0 -1", () -> x.far(0, -1));
        for (int off : FAR_OFF) {
            CHECK.noIndex("far off " + off, () -> x.far(off, 0));
            CHECK.noIndex("far off " + off, () -> x.far(0, off));
        }
    }

    private static void meet() {
        CHECK.says(0, "MEET of two who are AWAY: the fewest NIGHTS by which both can be at one PLACE, each going or"
                + " staying each NIGHT; none.");
        for (int place = 0; place < 8; place++) {
            AbsentRings x = Check.told("road 0 1;road 1 2;road 2 3;road 3 4;road 4 5;road 5 6;road 6 7;"
                    + "person weight 1 at 0;person weight 1 at " + place);
            CHECK.same("by " + place + " roads", x.meet(0, 1), (place + 1) / 2);
            CHECK.same("and turned", x.meet(1, 0), (place + 1) / 2);
        }
        AbsentRings y = Check.told("road 0 1;person weight 1 at 0;person weight 1 at 2");
        CHECK.same("no way", y.meet(0, 1), -1);
    }

    private static void meetOfThoseAway() {
        CHECK.says(20, "MEET; NONE (also, if one of both is not AWAY). IllegalArgumentException: both are one.");
        AbsentRings x = Check.told("walk 0;limit 1;dish 00000000;person weight 1 at 0;person weight 1 at 0;person weight 1;"
                + "person weight 1");
        CHECK.same("both away", x.meet(0, 1), 0);
        CHECK.same("the second at home", x.meet(0, 2), -1);
        CHECK.same("the first at home", x.meet(2, 0), -1);
        CHECK.same("both at home", x.meet(2, 3), -1);
        x.serve(0);
        x.off(1);
        CHECK.same("the second dead", x.meet(0, 1), -1);
        CHECK.same("the first dead", x.meet(1, 0), -1);
        for (int p = 0; p < 4; p++) {
            int both = p;
            CHECK.noArgument("both are " + p, () -> x.meet(both, both));
        }
        CHECK.noIndex("4 and 4", () -> x.meet(4, 4));
        CHECK.noIndex("-1 and -1", () -> x.meet(-1, -1));
        CHECK.noIndex("0 and 4", () -> x.meet(0, 4));
        CHECK.noIndex("0 and -1", () -> x.meet(0, -1));
        CHECK.noIndex("4 and 0", () -> x.meet(4, 0));
        for (int far : FAR_OFF) {
            CHECK.noIndex("far off " + far, () -> x.meet(far, far));
        }
    }

    private static void whereOfNothing() {
        CHECK.says(0, "WHERE: told are rows: a DISH and how much a RING ate of it, on NIGHTS one behind another");
        CHECK.says(0, "PLACES where it can be behind the last one, as bits");
        CHECK.says(21, "as bits (paths false), or PATHS. IllegalArgumentException: the TAPE is not that (there is no"
                + " such DISH; none may be told).");
        AbsentRings x = new AbsentRings();
        CHECK.same("nothing told, without dishes", x.where(false), 255);
        CHECK.same("paths of nothing", x.where(true), 8);
        AbsentRings y = Check.told("dish 10000001");
        CHECK.same("nothing told", y.where(false), 255);
        CHECK.same("one row", Check.tape(y, 0, 1).where(false), 129);
        CHECK.same("nowhere", Check.tape(y, 0, 2).where(false), 0);
        CHECK.same("no path", Check.tape(y, 0, 2).where(true), 0);
        CHECK.same("nowhere stays nowhere", Check.tape(y, 0, 2, 0, 0).where(false), 0);
    }

    private static void whereByGoing() {
        CHECK.says(0, "of one who was AWAY somewhere ahead of the first of these, and on each of them stays or goes"
                + " by one ROAD ahead of eating (EATEN alone, no LAW)");
        AbsentRings x = Check.told("road 0 1;road 1 2;dish 10010000;dish 01010000");
        Check.law(x, "more 1;less 30 if dish > 0");
        CHECK.same("at 0 or 3", Check.tape(x, 0, 1).where(false), 9);
        CHECK.same("ahead of it at 0, 1 or 3", Check.tape(x, 0, 1).where(true), 3);
        CHECK.same("then at 1 or 3", Check.tape(x, 0, 1, 1, 1).where(false), 10);
        CHECK.same("from 0 by one road, from 3 by staying", Check.tape(x, 0, 1, 1, 1).where(true), 3);
        // At 0 (by 0 or 1) or 3, then at 1 alone, as 2 is two roads away; then at 0 or 2.
        CHECK.same("not by two roads", Check.tape(x, 0, 1, 0, 0).where(false), 2);
        CHECK.same("there and back, or on", Check.tape(x, 0, 1, 0, 0, 1, 0).where(false), 5);
        CHECK.same("two by two", Check.tape(x, 0, 1, 0, 0, 1, 0).where(true), 4);
    }

    private static void rowsTaken(AbsentRings x, int... bytes) {
        CHECK.isTrue("where", Check.tape(x, bytes).where(false) >= 0);
        CHECK.isTrue("paths", Check.tape(x, bytes).where(true) >= 0);
        CHECK.isTrue("likely", Check.tape(x, bytes).likely() >= -1);
        CHECK.isTrue("next", Check.tape(x, bytes).next() >= -1);
    }

    private static void rowsRefused(AbsentRings x, int... bytes) {
        CHECK.noArgument("where", () -> Check.tape(x, bytes).where(false));
        CHECK.noArgument("paths", () -> Check.tape(x, bytes).where(true));
        CHECK.noArgument("likely", () -> Check.tape(x, bytes).likely());
        CHECK.noArgument("next", () -> Check.tape(x, bytes).next());
    }

    private static void whereTape() {
        CHECK.says(21, "(of each two bytes: the DISH, how much 0 to 9; at most 20)");
        CHECK.says(22, "LIKELY (the TAPE likewise); NONE. IllegalArgumentException: the TAPE is not that.");
        CHECK.says(23, "NEXT (the TAPE likewise); NONE. IllegalArgumentException: the TAPE is not that.");
        AbsentRings x = Check.told("dish 00000000;dish 90000000");
        rowsTaken(x);
        rowsTaken(x, 0, 0);
        rowsTaken(x, 1, 9);
        rowsTaken(x, new int[40]);
        rowsRefused(x, 1, 10);
        rowsRefused(x, 1, 255);
        rowsRefused(x, 2, 0);
        rowsRefused(x, 255, 0);
        rowsRefused(x, 0);
        rowsRefused(x, 0, 0, 1);
        rowsRefused(x, 0, 0, 2, 0);
        rowsRefused(x, 0, 0, 0, 10);
        rowsRefused(x, 0, 5, 0, 10);
        rowsRefused(x, new int[39]);
        rowsRefused(x, new int[41]);
        rowsRefused(x, new int[42]);
        rowsRefused(x, new int[400]);
        rowsRefused(new AbsentRings(), 0, 0);
        int[] last = new int[40];
        last[38] = 2;
        rowsRefused(x, last);
        last[38] = 1;
        last[39] = 9;
        CHECK.same("the twentieth counts", Check.tape(x, last).where(false), 1);
    }

    private static void whereTapeIsUsedUp() {
        CHECK.says(21, "Uses the TAPE up: WHERE");
        AbsentRings x = Check.told("dish 00000000");
        Check.tape(x, 0, 0).where(false);
        CHECK.isFalse("where", x.end(1));
        CHECK.says(22, "Uses the TAPE up: LIKELY");
        Check.tape(x, 0, 0).likely();
        CHECK.isFalse("likely", x.end(1));
        CHECK.says(23, "Uses the TAPE up: NEXT");
        Check.tape(x, 0, 0).next();
        CHECK.isFalse("next", x.end(1));
        Check.tape(x, 9, 9);
        CHECK.noArgument("refused", () -> x.where(true));
        CHECK.isFalse("also where it throws", x.end(1));
        CHECK.same("what was used up is gone", x.where(true), 8);
    }

    private static void paths() {
        CHECK.says(0, "PATHS: how many rows of PLACES, that ahead of the first and that of each NIGHT, there are"
                + " (9999 at most).");
        AbsentRings x = Check.told(ALL_ROADS[0], ALL_ROADS[1], "dish 00000000;dish 11111110;dish 11111100;dish 10000000");
        CHECK.same("8 by 8", Check.tape(x, 0, 0).where(true), 64);
        CHECK.same("4096", Check.tape(x, 0, 0, 0, 0, 0, 0).where(true), 4096);
        CHECK.same("8192", Check.tape(x, 0, 0, 0, 0, 0, 0, 2, 0).where(true), 8192);
        // 8 by 7 by 7 by 7 are 2744, by 7 again 19208; 8 by 6 by 6 by 6 are 1728, by 6 again 10368.
        CHECK.same("19208", Check.tape(x, 1, 1, 1, 1, 1, 1, 1, 1).where(true), 9999);
        CHECK.same("2744", Check.tape(x, 1, 1, 1, 1, 1, 1).where(true), 2744);
        CHECK.same("10368", Check.tape(x, 2, 1, 2, 1, 2, 1, 2, 1).where(true), 9999);
        CHECK.same("8 by 6 6 6 and 1", Check.tape(x, 2, 1, 2, 1, 2, 1, 3, 1).where(true), 1728);
        int[] most = new int[40];
        CHECK.same("8 to the 21st", Check.tape(x, most).where(true), 9999);
        Arrays.fill(most, 0);
        most[38] = 3;
        most[39] = 1;
        CHECK.same("8 to the 20th at one place", Check.tape(x, most).where(true), 9999);
        most[39] = 5;
        CHECK.same("none at the end", Check.tape(x, most).where(true), 0);
        AbsentRings y = Check.told("dish 00000000");
        CHECK.same("without roads 8 by twenty nights", Check.tape(y, new int[40]).where(true), 8);
    }

    private static void likely() {
        CHECK.says(0, "LIKELY: of these PLACES the one by the most PATHS (counted on; of several the least; none).");
        AbsentRings x = Check.told("road 5 6;road 6 7;dish 00000000;dish 00000011");
        CHECK.same("nothing told: all alike", x.likely(), 0);
        CHECK.same("two roads", Check.tape(x, 0, 0).likely(), 6);
        CHECK.same("two alike, the least", Check.tape(Check.told("road 4 5;dish 00000000"), 0, 0).likely(), 4);
        CHECK.same("none", Check.tape(x, 0, 1).likely(), -1);
        CHECK.same("of those that can be", Check.tape(x, 1, 1).likely(), 6);
        // From place 0 of two neighbours and place 4 of three: past 9999 both, and 4 ever more.
        AbsentRings y = Check.told("road 0 1;road 1 2;road 0 2;road 4 5;road 4 6;road 4 7;road 5 6;road 5 7;road 6 7;"
                + "dish 00000000");
        CHECK.same("3 to the 20th and 4 to the 20th", Check.tape(y, new int[40]).likely(), 4);
        AbsentRings z = Check.told(ALL_ROADS[0], ALL_ROADS[1], "dish 00000000;dish 10000000");
        CHECK.same("8 to the 20th each", Check.tape(z, new int[40]).likely(), 0);
        int[] rows = new int[40];
        rows[38] = 1;
        CHECK.same("the first is out", Check.tape(z, rows).likely(), 1);
    }

    private static void next() {
        CHECK.says(0, "NEXT: the DISH to serve on the NIGHT behind (it stays or goes by one ROAD ahead of it)");
        CHECK.says(0, "(of several the least; none with fewer than two PLACES, or without DISHES)");
        AbsentRings x = Check.told("dish 00000001;dish 00000000;dish 00000001");
        CHECK.same("one place", Check.tape(x, 0, 1).next(), -1);
        CHECK.same("no place", Check.tape(x, 0, 5).next(), -1);
        CHECK.same("of several the least", x.next(), 0);
        AbsentRings y = Check.told("road 7 3;dish 00000001;dish 00000000;dish 00010000");
        CHECK.same("one place, but two by going", Check.tape(y, 0, 1).next(), 0);
        AbsentRings z = new AbsentRings();
        CHECK.same("without dishes", z.next(), -1);
        Check.text(z, "dish 55555555").house();
        CHECK.same("a dish that parts nothing", z.next(), 0);
    }

    private static void nextParts() {
        CHECK.says(0, "by which PLACES where it can be then are parted so that the greatest part by what is EATEN is"
                + " the least by how many PLACES");
        // Parts of 5 and 3; of 4 and 4; of 4, 1, 1, 1, 1; of 3, 3, 2.
        AbsentRings x = Check.told("dish 00000111;dish 00001111;dish 00001234;dish 00011122");
        CHECK.same("three at most", x.next(), 3);
        AbsentRings y = Check.told("dish 00000111;dish 00001234;dish 00001111");
        CHECK.same("four at most: the least dish", y.next(), 1);
        AbsentRings z = Check.told("dish 01234567;dish 98765432");
        CHECK.same("one at most", z.next(), 0);
        AbsentRings u = Check.told("dish 99990000;dish 99911222");
        CHECK.same("nine is as any other", u.next(), 1);
        CHECK.same("also when asked again", u.next(), 1);
    }

    private static void apart() {
        CHECK.says(0, "APART: of sets of DISHES the fewest by which no two PLACES are alike in all that is EATEN: of"
                + " several the least as bits; none.");
        CHECK.says(24, "APART, as bits; NONE.");
        CHECK.same("without dishes", new AbsentRings().apart(), -1);
        CHECK.same("two alike", Check.told("dish 01234566").apart(), -1);
        CHECK.same("all apart", Check.told("dish 01234567").apart(), 1);
        CHECK.same("first and last alike", Check.told("dish 01234560").apart(), -1);
        CHECK.same("one at the end", Check.told("dish 00000000;dish 11111111;dish 12345678").apart(), 4);
        CHECK.same("two of several", Check.told("dish 00001111;dish 01230123;dish 01231111;dish 00112233;dish 01010101")
                .apart(), 3);
        CHECK.same("one is fewer than two", Check.told("dish 00001111;dish 01230123;dish 76543210").apart(), 4);
        CHECK.same("all six", Check.told("dish 10000000;dish 01000000;dish 00100000;dish 00010000;dish 00001000;"
                + "dish 00000100").apart(), -1);
        CHECK.same("all six and apart", Check.told("dish 10000000;dish 01000000;dish 00100000;dish 00010000;"
                + "dish 00001000;dish 00000120").apart(), 63);
    }

    private static void like() {
        CHECK.says(25, "LIKE.");
        CHECK.says(0, "LIKE of a DISH: pairs of PLACES at which as much of it is EATEN: how many.");
        AbsentRings x = Check.told("dish 99999999;dish 01234567;dish 50000005");
        CHECK.same("all pairs", x.like(0), 28);
        CHECK.same("none", x.like(1), 0);
        CHECK.same("first and last, and six", x.like(2), 16);
        CHECK.noIndex("3", () -> x.like(3));
        CHECK.noIndex("-1", () -> x.like(-1));
        for (int far : new int[] {31, 32, 33, -32, Integer.MIN_VALUE, Integer.MAX_VALUE}) {
            CHECK.noIndex("far off " + far, () -> x.like(far));
        }
    }

    private static void lying() {
        CHECK.says(0, "LYING of a PERSON who is AWAY: told is how much its RING seems to eat of each DISH (a row)");
        CHECK.says(0, "in how many it differs from what it EATS where it is (NONE, if it differs in some and its RING"
                + " has 4 LEGS: such a one cannot rock)");
        AbsentRings x = Check.told("walk 0;limit 1;dish 00000009;dish 00000000;dish 12345678;person weight 1 at 7 legs 3;"
                + "person weight 1 at 7 legs 4;person weight 1 legs 3");
        CHECK.same("in none", Check.tape(x, 9, 0, 8).lying(0), 0);
        CHECK.same("in one", Check.tape(x, 9, 0, 9).lying(0), 1);
        CHECK.same("in all", Check.tape(x, 0, 99, 99).lying(0), 3);
        CHECK.same("four legs, in none", Check.tape(x, 9, 0, 8).lying(1), 0);
        CHECK.same("four legs, in the first", Check.tape(x, 8, 0, 8).lying(1), -1);
        CHECK.same("four legs, in all", Check.tape(x, 8, 1, 9).lying(1), -1);
        Check.law(x, "more 30;more 30;more 30;off");
        CHECK.same("99 by the law", Check.tape(x, 99, 90, 98).lying(0), 0);
        Check.law(x, "more 30;more 30;more 30;more 1;off");
        CHECK.same("100 cannot be told", Check.tape(x, 99, 91, 99).lying(0), 1);
        x.off(0);
        CHECK.noState("dead", () -> Check.tape(x, 9, 0, 8).lying(0));
        CHECK.noState("at home", () -> Check.tape(x, 9, 0, 8).lying(2));
        AbsentRings y = Check.told("person weight 1 at 0;person weight 1");
        CHECK.same("without dishes nothing is told", y.lying(0), 0);
        CHECK.noState("without dishes at home", () -> y.lying(1));
        CHECK.noArgument("a byte too many", () -> Check.tape(y, 0).lying(0));
    }

    private static void lyingTape() {
        CHECK.says(26, "Uses the TAPE up: LYING (a byte 0 to 99 for each DISH); NONE. IllegalArgumentException: the"
                + " TAPE is not that; IllegalStateException: that one is not AWAY.");
        AbsentRings x = Check.told("dish 00000000;dish 00000000;person weight 1 at 7 legs 3;person weight 1");
        CHECK.same("99", Check.tape(x, 99, 99).lying(0), 2);
        CHECK.isFalse("used up", x.end(1));
        CHECK.noArgument("100", () -> Check.tape(x, 0, 100).lying(0));
        CHECK.isFalse("used up by a wrong one", x.end(1));
        CHECK.noArgument("100 first", () -> Check.tape(x, 100, 0).lying(0));
        CHECK.noArgument("255", () -> Check.tape(x, 0, 255).lying(0));
        CHECK.noArgument("none", () -> Check.tape(x).lying(0));
        CHECK.noArgument("one too few", () -> Check.tape(x, 0).lying(0));
        CHECK.noArgument("one too many", () -> Check.tape(x, 0, 0, 0).lying(0));
        CHECK.noArgument("400", () -> Check.tape(x, new int[400]).lying(0));
        CHECK.noArgument("the tape ahead of home", () -> Check.tape(x, 0).lying(1));
        CHECK.noState("home", () -> Check.tape(x, 0, 0).lying(1));
        CHECK.isFalse("used up by one at home", x.end(1));
        CHECK.noIndex("nobody ahead of the tape", () -> Check.tape(x, 0).lying(2));
        CHECK.isFalse("used up by nobody", x.end(1));
        CHECK.noIndex("-1", () -> Check.tape(x, 0, 0).lying(-1));
        CHECK.noIndex("the least", () -> Check.tape(x, 0, 0).lying(Integer.MIN_VALUE));
        CHECK.noIndex("the most", () -> Check.tape(x, 0, 0).lying(Integer.MAX_VALUE));
    }

    private static void odds() {
        CHECK.says(0, "ODDS of a PERSON who is AWAY, N NIGHTS (0 to 4) and a PLACE");
        AbsentRings x = Check.told("walk 100;road 0 1;person weight 1 at 0;person weight 1 at 7");
        for (int n = 0; n <= 4; n++) {
            CHECK.same("there and back " + n, x.odds(0, n, 0), n % 2 == 0 ? 10000 : 0);
            CHECK.same("there and back " + n, x.odds(0, n, 1), n % 2 == 0 ? 0 : 10000);
            CHECK.same("nowhere else " + n, x.odds(0, n, 2), 0);
            CHECK.same("no road " + n, x.odds(1, n, 7), 10000);
        }
        Check.text(x, "walk 0").house();
        CHECK.same("never", x.odds(0, 4, 0), 10000);
        Check.text(x, "walk 50").house();
        CHECK.same("half", x.odds(0, 1, 0), 5000);
        CHECK.same("half again", x.odds(0, 4, 1), 5000);
        CHECK.same("no draw is made", x.seed(1), 1);
        CHECK.same("it is where it was", x.person(0, 0), 0);
    }

    private static void oddsRoundedDown() {
        CHECK.says(0, "that it is there behind them, by WALK and ROADS: each NIGHT, of what there is at a PLACE"
                + " (10000 where it is, at first) WALK hundredths, rounded down, go by its ROADS, to each as much as"
                + " these by how many, rounded down; the rest stays (all, if there is no ROAD)");
        AbsentRings x = Check.told("walk 100;road 0 1;road 0 2;road 0 3;person weight 1 at 0");
        CHECK.same("3333 to each", x.odds(0, 1, 1), 3333);
        CHECK.same("1 stays", x.odds(0, 1, 0), 1);
        // All of 3333 comes back three times; of the 1 that stayed, by three nothing.
        CHECK.same("two nights", x.odds(0, 2, 0), 3 * 3333 + 1);
        CHECK.same("nothing is left at 1", x.odds(0, 2, 1), 0);
        Check.text(x, "walk 33").house();
        // 3300 go, 1100 to each; then of 6700 go 2211, 737 to each, of 1100 go 363.
        CHECK.same("33 of 100", x.odds(0, 1, 2), 1100);
        CHECK.same("twice", x.odds(0, 2, 2), 1100 - 363 + 737);
        Check.text(x, "walk 1;road 0 4;road 0 5;road 0 6;road 0 7").house();
        // 100 go by seven roads: 14 to each, 2 of them stay; of 14 one hundredth is 0.
        CHECK.same("14 to each", x.odds(0, 1, 7), 14);
        CHECK.same("9902 stay", x.odds(0, 1, 0), 9902);
        // Of 9902 go 99, 14 to each by seven: 98 are gone.
        CHECK.same("14 more", x.odds(0, 2, 7), 28);
        CHECK.same("none comes back", x.odds(0, 2, 0), 9804);
    }

    private static void oddsRefused() {
        CHECK.says(47, "ODDS. IllegalArgumentException: N is none; IllegalStateException: that one is not AWAY.");
        AbsentRings x = Check.told("walk 0;limit 1;dish 00000000;person weight 1 at 0;person weight 1");
        CHECK.same("0 nights", x.odds(0, 0, 0), 10000);
        CHECK.same("4 nights", x.odds(0, 4, 0), 10000);
        CHECK.noArgument("-1 nights", () -> x.odds(0, -1, 0));
        CHECK.noArgument("5 nights", () -> x.odds(0, 5, 0));
        CHECK.noArgument("nights ahead of home", () -> x.odds(1, 5, 0));
        CHECK.noState("home", () -> x.odds(1, 4, 0));
        CHECK.noIndex("place 8 ahead of nights", () -> x.odds(0, 5, 8));
        CHECK.noIndex("place -1 ahead of home", () -> x.odds(1, 0, -1));
        CHECK.noIndex("person 2", () -> x.odds(2, 5, 0));
        CHECK.noIndex("person -1", () -> x.odds(-1, 5, 8));
        for (int far : FAR_OFF) {
            CHECK.noArgument("nights " + far, () -> x.odds(0, far, 0));
            CHECK.noIndex("person " + far, () -> x.odds(far, 0, 0));
            CHECK.noIndex("place " + far, () -> x.odds(0, 0, far));
        }
        x.serve(0);
        x.off(0);
        CHECK.noState("dead", () -> x.odds(0, 0, 0));
    }
}
