/** Edges of nights, draws and acts, of the log, acts undone and the image: promises 7, 11 to 18 and 56 to 61. */
public final class ActEdgesTest {
    private static final Check CHECK = new Check("ActEdgesTest");
    private static final int[] FAR_OFF = {Integer.MIN_VALUE, Integer.MIN_VALUE + 1, -256, 256, Integer.MAX_VALUE};

    public static void main(String[] args) {
        draws();
        drawBits();
        walkNeverAndAlways();
        walkJustBelow();
        firstAndLastRoad();
        noRoadNoSecondDraw();
        onlyThoseAwayDraw();
        eatingBehindGoing();
        coldStandsStill();
        nightStandsStill();
        dishesByNight();
        withoutDishes();
        lawOfThatNight();
        person();
        mayBeOff();
        share();
        soon();
        leave();
        home();
        ironStandsStill();
        serve();
        off();
        rise();
        vote();
        promise();
        nights();
        logKinds();
        logOfTheLimit();
        logOfSixty();
        logWhat();
        led();
        seed();
        twelveActs();
        undoneWhole();
        undoneRoundTheRing();
        textsForget();
        image();
        imageStays();
        manyCalls();
        CHECK.finish();
    }

    /** SEED behind a draw, by longs that do not go round. */
    private static int seedBehind(int seed) {
        return (int) (1103515245L * seed + 12345L & 0xffffffffL);
    }

    private static int draw(int seed) {
        long bits = 1103515245L * seed + 12345L & 0xffffffffL;
        return (int) (bits / 65536 % 32768);
    }

    private static int seedBehind(int seed, int draws) {
        int s = seed;
        for (int i = 0; i < draws; i++) {
            s = seedBehind(s);
        }
        return s;
    }

    /** The first seed from 1 on whose draw leaves such a rest, and the draw behind it another one. */
    private static int seedWith(int modulo, int rest, int nextModulo, int nextRest) {
        for (int seed = 1; seed < 10_000_000; seed++) {
            if (draw(seed) % modulo == rest && draw(seedBehind(seed)) % nextModulo == nextRest) {
                return seed;
            }
        }
        throw new IllegalStateException("no such seed");
    }

    private static void draws() {
        CHECK.says(0, "DRAW: SEED is 1103515245 times SEED and 12345, as an int that goes round; bits 16 to 30");
        AbsentRings x = Check.told("walk 0;dish 00000000;person weight 1 at 0");
        for (int seed : new int[] {1, 0, -1, 2, 12345, Integer.MAX_VALUE, Integer.MIN_VALUE, -1103515245}) {
            x.seed(seed);
            x.serve(0);
            CHECK.same("behind " + seed, x.seed(1), seedBehind(seed));
        }
        CHECK.same("by hand: of 1", seedBehind(1), 1103527590);
        CHECK.same("by hand: of 0", seedBehind(0), 12345);
        CHECK.same("by hand: of -1", seedBehind(-1), -1103502900);
    }

    /** Whether one of walk w at place 0, with a road to 1, goes by the draw of a seed. */
    private static boolean goes(int walk, int seed) {
        AbsentRings x = Check.told("walk " + walk + ";road 0 1;dish 00000000;person weight 1 at 0");
        x.seed(seed);
        x.serve(0);
        return x.person(0, 0) == 1;
    }

    private static void drawBits() {
        // Of these the sign bit of SEED is set behind the draw: it is none of bits 16 to 30.
        int seen = 0;
        for (int seed = -40; seed < 40; seed++) {
            int rest = draw(seed) % 100;
            seen += seedBehind(seed) < 0 ? 1 : 0;
            CHECK.same("seed " + seed + " just not", goes(rest, seed) ? 1 : 0, 0);
            CHECK.same("seed " + seed + " just", goes(rest + 1, seed) ? 1 : 0, 1);
        }
        CHECK.isTrue("seeds below 0 came", seen > 20);
    }

    private static void walkNeverAndAlways() {
        CHECK.says(0, "WALK 0 to 100 (50 at first): how likely one goes on a NIGHT.");
        CHECK.says(0, "if DRAW modulo 100 is below WALK, it goes by a ROAD");
        CHECK.isFalse("walk 0, draw 0", goes(0, seedWith(100, 0, 1, 0)));
        CHECK.isTrue("walk 1, draw 0", goes(1, seedWith(100, 0, 1, 0)));
        CHECK.isTrue("walk 100, draw 99", goes(100, seedWith(100, 99, 1, 0)));
        CHECK.isFalse("walk 99, draw 99", goes(99, seedWith(100, 99, 1, 0)));
    }

    private static void walkJustBelow() {
        CHECK.isTrue("walk 50, draw 49", goes(50, seedWith(100, 49, 1, 0)));
        CHECK.isFalse("walk 50, draw 50", goes(50, seedWith(100, 50, 1, 0)));
    }

    private static void firstAndLastRoad() {
        CHECK.says(0, "of the PLACES to which one leads from there, in order, that of the number DRAW modulo how"
                + " many");
        String house = "walk 100;road 3 7;road 3 6;road 5 3;road 3 4;road 2 3;road 3 1;road 0 3;dish 00000000;"
                + "person weight 1 at 3";
        int[] due = {0, 1, 2, 4, 5, 6, 7};
        for (int n = 0; n < 7; n++) {
            AbsentRings x = Check.told(house);
            x.seed(seedWith(1, 0, 7, n));
            x.serve(0);
            CHECK.same("of seven the number " + n, x.person(0, 0), due[n]);
        }
        AbsentRings y = Check.told("walk 100;road 3 7;dish 00000000;person weight 1 at 3");
        y.serve(0);
        CHECK.same("of one", y.person(0, 0), 7);
        CHECK.same("two draws", y.seed(1), seedBehind(1, 2));
    }

    private static void noRoadNoSecondDraw() {
        CHECK.says(0, "(none: it stays, the second DRAW is not made)");
        AbsentRings x = Check.told("walk 100;road 0 1;dish 00000000;person weight 1 at 3;person weight 1 at 0");
        x.serve(0);
        CHECK.same("it stays", x.person(0, 0), 3);
        CHECK.same("the other one goes", x.person(1, 0), 1);
        CHECK.same("one draw and two", x.seed(1), seedBehind(1, 3));
        AbsentRings y = Check.told("walk 0;road 0 1;dish 00000000;person weight 1 at 0");
        y.serve(0);
        CHECK.same("one who does not go draws once", y.seed(1), seedBehind(1, 1));
    }

    private static void onlyThoseAwayDraw() {
        CHECK.says(0, "AWAY: at a PLACE and not DEAD.");
        CHECK.says(0, "A NIGHT of a DISH: (a) each PERSON who is AWAY, by numbers");
        AbsentRings x = Check.told("walk 0;road 0 1;limit 1;dish 00000000;person weight 1;person weight 1 at 0;"
                + "person weight 1 at 0");
        x.serve(0);
        CHECK.same("not one at home", x.seed(1), seedBehind(1, 2));
        x.off(1);
        x.seed(1);
        x.serve(0);
        CHECK.same("not a dead one", x.seed(1), seedBehind(1, 1));
        AbsentRings y = Check.told("walk 100;road 0 1;dish 00000000;person weight 1");
        y.serve(0);
        CHECK.same("nobody", y.seed(1), 1);
        CHECK.same("the night goes by", y.count(4), 1);
        // The first by numbers takes the first draws: 0 goes by the draws of the seed, 1 stays by the third.
        for (int seed = 1; seed < 2000; seed++) {
            if (draw(seed) % 100 < 30 && draw(seedBehind(seed, 2)) % 100 >= 30) {
                AbsentRings z = Check.told("walk 30;road 0 1;dish 00000000;person weight 1 at 0;person weight 1 at 0");
                z.seed(seed);
                z.serve(0);
                CHECK.same("the first goes", z.person(0, 0), 1);
                CHECK.same("the second does not", z.person(1, 0), 0);
                break;
            }
        }
    }

    private static void eatingBehindGoing() {
        CHECK.says(0, "(b) each who is AWAY, by numbers: what it EATS at the PLACE where it is: with 0 COLD is 1 more"
                + " (99 at most), else COLD is 0");
        AbsentRings x = Check.told("walk 100;road 0 1;dish 01000000;person weight 1 at 0;person weight 1 at 1");
        CHECK.same("one lay cold", x.serve(0), 1);
        CHECK.same("it eats where it has gone to", x.person(0, 6), 0);
        CHECK.same("and is cold where it has gone to", x.person(1, 6), 1);
        x.serve(0);
        CHECK.same("cold again is 1", x.person(0, 6), 1);
        CHECK.same("and 0 by eating", x.person(1, 6), 0);
    }

    private static void coldStandsStill() {
        AbsentRings x = Check.told("walk 0;limit 50;dish 00000000;dish 11111111;person weight 1 at 3");
        for (int i = 0; i < 98; i++) {
            x.serve(0);
        }
        CHECK.same("98", x.person(0, 6), 98);
        CHECK.same("one lies cold", x.serve(0), 1);
        CHECK.same("99", x.person(0, 6), 99);
        CHECK.same("one lies cold still", x.serve(0), 1);
        CHECK.same("99 at most", x.person(0, 6), 99);
        x.serve(1);
        CHECK.same("0 by eating", x.person(0, 6), 0);
        x.undo();
        CHECK.same("99 again", x.person(0, 6), 99);
    }

    private static void nightStandsStill() {
        CHECK.says(0, "NIGHT is 1 more (9999 at most)");
        AbsentRings x = Check.told("night 999;walk 0;limit 1;dish 00000000;dish 11111111;person weight 1 at 0");
        for (int i = 0; i < 150; i++) {
            x.nights(60);
        }
        CHECK.same("9999", x.count(4), 9999);
        x.serve(1);
        CHECK.same("9999 by serving", x.count(4), 9999);
        x.serve(0);
        CHECK.same("9999 in the log", x.log(0, 0), 9999);
        CHECK.same("of the limit", x.log(0, 2), 3);
        x.home(0);
        CHECK.same("9999 of one who came home", x.led(0, true), 9999);
        x.undo();
        CHECK.same("cold 1", x.person(0, 6), 1);
        CHECK.same("nights at the end: dish 9999 % 2 each time", x.nights(2), 0);
        CHECK.same("ahead at the end", x.ahead(0, 60), 0);
        Check.text(x, "night 999").house();
        CHECK.same("told anew", x.count(4), 999);
        x.nights(1);
        CHECK.same("1000", x.count(4), 1000);
    }

    private static void dishesByNight() {
        CHECK.says(0, "NIGHTS of no DISH told: DISH (NIGHT modulo how many there are) each time");
        for (int night = 0; night < 12; night++) {
            AbsentRings x = Check.told("walk 0;dish 10000000;dish 01000000;dish 00100000;dish 00010000;dish 00001000;"
                    + "dish 00000100;night " + night + ";person weight 1 at 0");
            CHECK.same("night " + night, x.nights(1), night % 6 == 0 ? 0 : 1);
        }
        AbsentRings y = Check.told("walk 0;night 5;dish 10000000;dish 01000000;person weight 1 at 0");
        CHECK.same("dishes 1, 0, 1", y.nights(3), 2);
        y.serve(0);
        CHECK.same("a dish told does not ask the night: 9 % 2 = 1", y.nights(1), 1);
    }

    private static void withoutDishes() {
        CHECK.says(0, "(without DISHES: (a) and NIGHT alone)");
        AbsentRings x = Check.told("walk 100;road 0 1;limit 1;person weight 1 at 0");
        CHECK.same("nights", x.nights(1), 0);
        CHECK.same("it goes", x.person(0, 0), 1);
        CHECK.same("not cold", x.person(0, 6), 0);
        CHECK.same("the night", x.count(4), 1);
        CHECK.same("no row", x.count(11), 0);
        CHECK.same("draws", x.seed(1), seedBehind(1, 2));
        CHECK.noIndex("no dish to serve", () -> x.serve(0));
        AbsentRings y = Check.told("dish 00000000;person weight 1 at 3;walk 0");
        y.nights(2);
        CHECK.same("with one dish it is cold", y.person(0, 6), 2);
    }

    private static void lawOfThatNight() {
        // The law looks at the night ahead of its being 1 more, and at the cold ahead of this night's.
        AbsentRings x = Check.told("walk 0;dish 00000000;person weight 1 at 0");
        Check.law(x, "more 1 if night > 2");
        CHECK.same("nights 0, 1 and 2 are cold", x.nights(3), 3);
        CHECK.same("night 3 is not", x.nights(1), 0);
        Check.law(x, "more 1 if cold > 2");
        CHECK.same("cold 0, 1, 2", x.nights(3), 3);
        CHECK.same("cold 3 eats", x.nights(1), 0);
        CHECK.same("and is 0 then", x.person(0, 6), 0);
        Check.law(x, "more 1 if night > 998 + 1");
        Check.text(x, "night 999").house();
        CHECK.same("night 999", x.nights(1), 1);
        CHECK.same("night 1000", x.nights(1), 0);
    }

    private static void person() {
        CHECK.says(7, "Of a PERSON what 0 the PLACE (NONE at HOME; of a DEAD one where it was), 1 VOTE, 2 WEIGHT, 3"
                + " LEGS, 4 to whom it is PROMISED (NONE), 5 1 if DEAD, 6 COLD");
        AbsentRings x = Check.told("walk 0;limit 1;dish 00000000;person weight 99 at 7 vote 20 legs 3;"
                + "person weight 1 vote 0;promise 0 1");
        int[][] due = {{7, 20, 99, 3, 1, 0, 0}, {-1, 0, 1, 4, -1, 0, 0}};
        for (int p = 0; p < 2; p++) {
            for (int what = 0; what <= 6; what++) {
                CHECK.same("person " + p + " what " + what, x.person(p, what), due[p][what]);
            }
        }
        CHECK.same("at home", x.person(1, 0), -1);
        CHECK.same("at 7", x.person(0, 0), 7);
        x.serve(0);
        x.off(0);
        CHECK.same("where it was", x.person(0, 0), 7);
        CHECK.says(7, "5 1 if DEAD");
        CHECK.same("dead", x.person(0, 5), 1);
        CHECK.same("not dead", x.person(1, 5), 0);
        CHECK.same("cold of a dead one", x.person(0, 6), 1);
        CHECK.says(7, "NoSuchElementException: another what.");
        CHECK.noElement("-1", () -> x.person(0, -1));
        CHECK.noElement("10", () -> x.person(0, 10));
        CHECK.noIndex("person -1", () -> x.person(-1, 0));
        CHECK.noIndex("person 2", () -> x.person(2, 9));
        for (int far : FAR_OFF) {
            CHECK.noElement("what " + far, () -> x.person(1, far));
            CHECK.noIndex("person " + far, () -> x.person(far, 0));
            CHECK.noIndex("both " + far, () -> x.person(far, far));
        }
    }

    private static void mayBeOff() {
        CHECK.says(7, "7 1 if its RING MAY BE OFF (0, if it is not AWAY)");
        AbsentRings x = Check.told("walk 0;limit 3;dish 00000000;person weight 1 at 2;person weight 1");
        x.nights(2);
        CHECK.same("one below the limit", x.person(0, 7), 0);
        x.nights(1);
        CHECK.same("the limit", x.person(0, 7), 1);
        x.nights(1);
        CHECK.same("above the limit", x.person(0, 7), 1);
        Check.text(x, "limit 5").house();
        CHECK.same("the limit told anew", x.person(0, 7), 0);
        Check.law(x, "off");
        CHECK.same("at home", x.person(1, 7), 0);
        CHECK.same("away", x.person(0, 7), 1);
        x.off(0);
        CHECK.same("dead", x.person(0, 7), 0);
        CHECK.says(0, "MAY BE OFF (of a PERSON, by DISH 0 and the PLACE where it is): whether some off LINE holds");
        AbsentRings y = Check.told("walk 0;limit 1;person weight 1 at 2");
        Check.law(y, "off if dish > 0");
        CHECK.same("dish 0, also without dishes", y.person(0, 7), 0);
        Check.law(y, "off if dish > 0;off if dish < 1 and place > 1 and place < 3");
        CHECK.same("some holds", y.person(0, 7), 1);
        Check.law(y, "off if 2<1;off if 2<1;off if 2<1;off if 2<1;off if 2<1;off if 2<1;off if 2<1;off if 2<1;off if 2<1;"
                + "off if 2<1;off if 2<1;off if 2<1");
        CHECK.same("none of twelve holds", y.person(0, 7), 0);
        Check.law(y, "off if 2<1;off if 1<2");
        CHECK.same("the last holds", y.person(0, 7), 1);
        Check.law(y, "off if 2<1");
        CHECK.same("a line of the law before does not", y.person(0, 7), 0);
        Check.law(y, "off if dish + 1 > 0");
        CHECK.same("dish 0, not below", y.person(0, 7), 1);
        Check.text(y, "dish 00000000").house();
        Check.law(y, "off if 2 < 1");
        y.nights(9);
        CHECK.same("with an off line the limit is not asked", y.person(0, 7), 0);
        Check.law(y, "more 0");
        CHECK.same("without one it is", y.person(0, 7), 1);
    }

    private static void share() {
        CHECK.says(7, "8 SHARE, 9 SOON (NONE).");
        CHECK.says(0, "SHARE of a PERSON of VOTES of those not DEAD, in hundredths, rounded down (0 without).");
        AbsentRings x = Check.told("walk 0;limit 1;dish 00000000;person weight 1 vote 1;person weight 1 vote 2;"
                + "person weight 1 at 0 vote 0");
        CHECK.same("a third", x.person(0, 8), 33);
        CHECK.same("two thirds", x.person(1, 8), 66);
        CHECK.same("nothing", x.person(2, 8), 0);
        x.vote(2, 20);
        CHECK.same("1 of 23", x.person(0, 8), 4);
        CHECK.same("20 of 23", x.person(2, 8), 86);
        x.serve(0);
        x.off(2);
        CHECK.same("a third again", x.person(0, 8), 33);
        CHECK.same("a dead one has none of those", x.person(2, 8), 0);
        x.vote(1, 0);
        CHECK.same("all", x.person(0, 8), 100);
        x.vote(0, 0);
        CHECK.same("without votes", x.person(0, 8), 0);
    }

    private static void soon() {
        CHECK.says(0, "SOON of a PERSON: how many NIGHTS it takes at least to be home (to PLACE 0 by ROADS, and 1; 0"
                + " at HOME; none, if it cannot, or is DEAD).");
        AbsentRings x = Check.told("walk 0;limit 1;dish 00000000;road 0 1;road 1 2;road 2 3;road 3 4;road 4 5;road 5 6;"
                + "person weight 1 at 0;person weight 1 at 6;person weight 1 at 7;person weight 1;person weight 1 at 1");
        CHECK.same("at the gate", x.person(0, 9), 1);
        CHECK.same("six roads", x.person(1, 9), 7);
        CHECK.same("it cannot", x.person(2, 9), -1);
        CHECK.same("at home", x.person(3, 9), 0);
        CHECK.same("one road", x.person(4, 9), 2);
        Check.text(x, "road 6 7").house();
        CHECK.same("seven roads", x.person(2, 9), 8);
        x.serve(0);
        x.off(0);
        CHECK.same("dead", x.person(0, 9), -1);
        x.rise(0);
        CHECK.same("home again", x.person(0, 9), 0);
    }

    private static void leave() {
        CHECK.says(0, "at a PLACE, or at HOME; PLACE 0 is the GATE, by which one goes from HOME and comes back");
        CHECK.says(11, "Goes away: IRON then.");
        CHECK.says(0, "ACTS: one at HOME goes away (to PLACE 0; IRON is WEIGHT less)");
        AbsentRings x = Check.told("iron 99;walk 0;limit 1;dish 00000000;person weight 99;person weight 1");
        CHECK.same("just enough", x.leave(0), 0);
        CHECK.same("at the gate", x.person(0, 0), 0);
        CHECK.says(11, "IllegalStateException: it is not at HOME, is DEAD, or IRON is less than WEIGHT.");
        CHECK.noState("not enough", () -> x.leave(1));
        CHECK.noState("away", () -> x.leave(0));
        x.serve(0);
        x.off(0);
        CHECK.noState("dead", () -> x.leave(0));
        CHECK.noIndex("2", () -> x.leave(2));
        CHECK.noIndex("-1", () -> x.leave(-1));
        AbsentRings y = Check.told("iron 98;person weight 99");
        CHECK.noState("one too little", () -> y.leave(0));
        CHECK.same("it is at home still", y.person(0, 0), -1);
        CHECK.same("no row", y.count(11), 0);
        CHECK.same("no act", y.count(12), 0);
    }

    private static void home() {
        CHECK.says(12, "Comes home: IRON then.");
        CHECK.says(0, "one who is AWAY at PLACE 0 comes home (IRON is WEIGHT more, 9999 at most; COLD 0)");
        AbsentRings x = Check.told("iron 0;walk 0;limit 1;dish 00000000;person weight 99 at 0;person weight 1 at 1;"
                + "person weight 1 at 0;person weight 1");
        x.serve(0);
        CHECK.same("cold", x.person(0, 6), 1);
        CHECK.same("iron", x.home(0), 99);
        CHECK.same("cold 0", x.person(0, 6), 0);
        CHECK.says(12, "IllegalStateException: it is not AWAY at PLACE 0.");
        CHECK.noState("at home", () -> x.home(0));
        CHECK.noState("at 1", () -> x.home(1));
        CHECK.noState("never away", () -> x.home(3));
        x.off(2);
        CHECK.noState("dead at 0", () -> x.home(2));
        CHECK.noIndex("4", () -> x.home(4));
        CHECK.noIndex("-1", () -> x.home(-1));
    }

    /** By no run of calls IRON comes near 9999: 999 told, and eight rings that are given back, are the most. */
    private static void ironStandsStill() {
        CHECK.says(14, "Taken off: IRON then (9999 at most).");
        String four = "person weight 99 at 0;person weight 99 at 0;person weight 99 at 0;person weight 99 at 0";
        AbsentRings x = Check.told("iron 999;walk 0;dish 00000000", four, four);
        Check.law(x, "off");
        for (int p = 0; p < 8; p++) {
            CHECK.same("off " + p, x.off(p), 999 + 99 * (p + 1));
        }
        for (int p = 0; p < 8; p++) {
            x.rise(p);
        }
        CHECK.same("rising gives nothing", x.count(8), 1791);
        for (int p = 0; p < 8; p++) {
            x.leave(p);
        }
        CHECK.same("going away takes it back", x.count(8), 999);
        for (int p = 0; p < 8; p++) {
            CHECK.same("home " + p, x.home(p), 999 + 99 * (p + 1));
        }
    }

    private static void serve() {
        CHECK.says(0, "COLD 0); a NIGHT of a DISH; a RING is taken off");
        CHECK.says(13, "A NIGHT of a DISH: how many RINGS lay COLD on it.");
        AbsentRings x = Check.told("walk 0;limit 1;dish 10000000;dish 00000000;person weight 1 at 0;person weight 1 at 1;"
                + "person weight 1 at 1;person weight 1");
        CHECK.same("two", x.serve(0), 2);
        CHECK.same("three", x.serve(1), 3);
        x.off(1);
        CHECK.same("not a dead one's", x.serve(1), 2);
        CHECK.noIndex("2", () -> x.serve(2));
        CHECK.noIndex("-1", () -> x.serve(-1));
        CHECK.same("nights", x.count(4), 3);
        AbsentRings y = Check.told("dish 00000000");
        CHECK.same("nobody's", y.serve(0), 0);
        CHECK.same("an act still", y.count(12), 1);
    }

    private static void off() {
        CHECK.says(0, "IllegalStateException: it cannot be.");
        CHECK.says(14, "IllegalStateException: it is not AWAY, or it MAY NOT BE OFF.");
        AbsentRings x = Check.told("walk 0;limit 2;iron 0;dish 00000000;person weight 99 at 7;person weight 1");
        CHECK.noState("not cold", () -> x.off(0));
        x.serve(0);
        CHECK.noState("not long enough", () -> x.off(0));
        x.serve(0);
        CHECK.same("just long enough", x.off(0), 99);
        CHECK.noState("dead", () -> x.off(0));
        Check.law(x, "off");
        CHECK.noState("at home", () -> x.off(1));
        CHECK.noState("dead, also by the law", () -> x.off(0));
        CHECK.noIndex("2", () -> x.off(2));
        CHECK.noIndex("-1", () -> x.off(-1));
        CHECK.says(0, "a RING is taken off (DEAD; IRON is WEIGHT more)");
        CHECK.same("cold as it was", x.person(0, 6), 2);
        CHECK.same("promises stay as they are", x.person(0, 4), -1);
    }

    private static void rise() {
        CHECK.says(15, "Comes back: the PLACE where it was.");
        CHECK.says(0, "a DEAD one comes back (not DEAD, at HOME, COLD 0)");
        for (int place = 0; place < 8; place++) {
            AbsentRings x = Check.told("walk 0;limit 1;iron 5;dish 00000000;person weight 1 at " + place);
            x.serve(0);
            x.off(0);
            CHECK.same("from " + place, x.rise(0), place);
            CHECK.same("at home", x.person(0, 0), -1);
            CHECK.same("not dead", x.person(0, 5), 0);
            CHECK.same("cold 0", x.person(0, 6), 0);
            CHECK.same("iron stays", x.count(8), 6);
            CHECK.says(15, "IllegalStateException: it is not DEAD.");
            CHECK.noState("again", () -> x.rise(0));
            x.leave(0);
            CHECK.noState("away", () -> x.rise(0));
            CHECK.noIndex("1", () -> x.rise(1));
            CHECK.noIndex("-1", () -> x.rise(-1));
        }
    }

    private static void vote() {
        CHECK.says(0, "a VOTE is told; PROMISED is told; NIGHTS.");
        CHECK.says(16, "A VOTE is told: what it was. IllegalArgumentException: it is none (0 to 20).");
        AbsentRings x = Check.told("walk 0;limit 1;dish 00000000;person weight 1 at 0");
        CHECK.same("0", x.vote(0, 0), 1);
        CHECK.same("20", x.vote(0, 20), 0);
        CHECK.same("as it is", x.vote(0, 20), 20);
        CHECK.same("three acts", x.count(12), 3);
        CHECK.noArgument("21", () -> x.vote(0, 21));
        CHECK.noArgument("-1", () -> x.vote(0, -1));
        for (int far : FAR_OFF) {
            CHECK.noArgument("vote " + far, () -> x.vote(0, far));
            CHECK.noIndex("person " + far, () -> x.vote(far, far));
        }
        CHECK.noIndex("person ahead of vote", () -> x.vote(1, 21));
        CHECK.same("it is 20 still", x.person(0, 1), 20);
        x.serve(0);
        x.off(0);
        CHECK.same("of a dead one", x.vote(0, 7), 20);
        CHECK.same("votes of none", x.count(10), 0);
    }

    private static void promise() {
        CHECK.says(0, "IllegalArgumentException: a number is none, or two are one.");
        CHECK.says(17, "PROMISED (other NONE: to none): to whom it was; NONE. IllegalArgumentException: both are"
                + " one.");
        AbsentRings x = Check.told("person weight 1;person weight 1;person weight 1");
        CHECK.same("none to none", x.promise(0, -1), -1);
        CHECK.same("none to 2", x.promise(0, 2), -1);
        CHECK.same("2 to 2", x.promise(0, 2), 2);
        CHECK.same("2 to 1", x.promise(0, 1), 2);
        CHECK.same("1 to none", x.promise(0, -1), 1);
        CHECK.same("five acts", x.count(12), 5);
        for (int p = 0; p < 3; p++) {
            int both = p;
            CHECK.noArgument("both are " + p, () -> x.promise(both, both));
        }
        CHECK.noIndex("other 3", () -> x.promise(0, 3));
        CHECK.noIndex("other -2", () -> x.promise(0, -2));
        CHECK.noIndex("person 3", () -> x.promise(3, 0));
        CHECK.noIndex("person -1", () -> x.promise(-1, 0));
        CHECK.noIndex("person -1 to none", () -> x.promise(-1, -1));
        CHECK.noIndex("3 and 3", () -> x.promise(3, 3));
        for (int far : FAR_OFF) {
            CHECK.noIndex("both " + far, () -> x.promise(far, far));
            CHECK.noIndex("other " + far, () -> x.promise(0, far));
        }
        CHECK.same("five acts still", x.count(12), 5);
    }

    private static void nights() {
        CHECK.says(18, "So many NIGHTS of no DISH told (1 to 60): how many RINGS lay COLD on these, together."
                + " IllegalArgumentException: they are none.");
        AbsentRings x = Check.told("walk 0;dish 00000000;person weight 1 at 0;person weight 1 at 1;person weight 1");
        CHECK.same("one", x.nights(1), 2);
        CHECK.same("sixty", x.nights(60), 120);
        CHECK.same("61 nights", x.count(4), 61);
        CHECK.noArgument("0", () -> x.nights(0));
        CHECK.noArgument("61", () -> x.nights(61));
        CHECK.noArgument("-1", () -> x.nights(-1));
        for (int far : FAR_OFF) {
            CHECK.noArgument("nights " + far, () -> x.nights(far));
        }
        CHECK.same("61 nights still", x.count(4), 61);
        CHECK.same("two acts", x.count(12), 2);
        CHECK.same("at most: eight by sixty", Check.told("walk 0;dish 00000000", "person weight 1 at 0;"
                + "person weight 1 at 0;person weight 1 at 0;person weight 1 at 0;person weight 1 at 0;"
                + "person weight 1 at 0;person weight 1 at 0;person weight 1 at 0").nights(60), 480);
    }

    private static void row(AbsentRings x, int ago, int night, int person, int kind, int place) {
        CHECK.same("night " + ago + " ago", x.log(ago, 0), night);
        CHECK.same("person " + ago + " ago", x.log(ago, 1), person);
        CHECK.same("kind " + ago + " ago", x.log(ago, 2), kind);
        CHECK.same("place " + ago + " ago", x.log(ago, 3), place);
    }

    private static void logKinds() {
        CHECK.says(0, "that a RING was set (0), taken off (1), cleared, as one came home or back (2), or lay COLD");
        CHECK.says(0, "NIGHT (ahead of its being 1 more), the PERSON, 0 to 3, the PLACE (where it is or was; of one"
                + " who came back where it was)");
        AbsentRings x = Check.told("walk 100;road 0 7;limit 1;night 998;dish 00000000;person weight 1;"
                + "person weight 1 at 7");
        x.leave(0);
        row(x, 0, 998, 0, 0, 0);
        x.serve(0);
        row(x, 0, 998, 1, 3, 0);
        row(x, 1, 998, 0, 3, 7);
        x.off(0);
        row(x, 0, 999, 0, 1, 7);
        x.home(1);
        row(x, 0, 999, 1, 2, 0);
        x.serve(0);
        CHECK.same("no row of a dead one nor of one at home", x.count(11), 5);
        x.rise(0);
        row(x, 0, 1000, 0, 2, 7);
        x.vote(0, 3);
        x.promise(0, 1);
        x.seed(9);
        x.image();
        CHECK.same("no row of other calls", x.count(11), 6);
        row(x, 5, 998, 0, 0, 0);
    }

    private static void logOfTheLimit() {
        CHECK.says(0, "or lay COLD for the LIMIT-th NIGHT in a row (3)");
        AbsentRings x = Check.told("walk 0;limit 2;dish 00000000;dish 11111111;person weight 1 at 5");
        x.serve(0);
        CHECK.same("the first", x.count(11), 0);
        x.serve(0);
        CHECK.same("the second", x.count(11), 1);
        x.serve(0);
        CHECK.same("the third", x.count(11), 1);
        Check.text(x, "limit 4").house();
        x.serve(0);
        CHECK.same("the fourth of a limit told anew", x.count(11), 2);
        Check.text(x, "limit 3").house();
        x.serve(0);
        CHECK.same("the fifth, beyond a lesser limit", x.count(11), 2);
        x.serve(1);
        x.nights(1);
        CHECK.same("another row begins", x.count(11), 2);
        AbsentRings y = Check.told("walk 0;limit 1;dish 00000000;person weight 1 at 5");
        y.nights(60);
        CHECK.same("limit 1: the first alone", y.count(11), 1);
        row(y, 0, 0, 0, 3, 5);
        AbsentRings z = Check.told("walk 0;limit 99;dish 00000000;person weight 1 at 5");
        z.nights(60);
        z.nights(38);
        CHECK.same("limit 99: not the 98th", z.count(11), 0);
        z.nights(60);
        CHECK.same("limit 99: the 99th alone", z.count(11), 1);
        row(z, 0, 98, 0, 3, 5);
    }

    private static void logOfSixty() {
        CHECK.says(0, "THE LOG: the latest 60 times");
        AbsentRings x = Check.told("person weight 1;person weight 1 at 0");
        CHECK.same("empty", x.log(0, 0), -2);
        x.home(1);
        for (int n = 2; n <= 59; n++) {
            if (n % 2 == 0) {
                x.leave(0);
            } else {
                x.home(0);
            }
        }
        CHECK.same("59", x.count(11), 59);
        CHECK.same("no 60th", x.log(59, 1), -2);
        x.leave(0);
        CHECK.same("60", x.count(11), 60);
        row(x, 59, 0, 1, 2, 0);
        x.home(0);
        CHECK.same("60 still", x.count(11), 60);
        row(x, 59, 0, 0, 0, 0);
        row(x, 0, 0, 0, 2, 0);
        CHECK.same("no 61st", x.log(60, 1), -2);
        CHECK.same("led of the one whose row is gone", x.led(1, false), 0);
        CHECK.same("and no night", x.led(1, true), -1);
        CHECK.same("led of the other one", x.led(0, false), 60);
        x.undo();
        row(x, 59, 0, 1, 2, 0);
        CHECK.same("undone: led", x.led(1, false), 1);
    }

    private static void logWhat() {
        CHECK.says(57, "THE LOG so many ago (0 the latest) what 0 NIGHT, 1 the PERSON, 2 0 to 3, 3 the PLACE; - 2"
                + " without. NoSuchElementException: another what.");
        AbsentRings x = Check.told("person weight 1");
        for (int what = 0; what < 4; what++) {
            CHECK.same("without: what " + what, x.log(0, what), -2);
        }
        x.leave(0);
        for (int what = 0; what < 4; what++) {
            CHECK.same("what " + what, x.log(0, what), 0);
            CHECK.same("1 ago", x.log(1, what), -2);
            CHECK.same("-1 ago", x.log(-1, what), -2);
        }
        CHECK.noElement("-1", () -> x.log(0, -1));
        CHECK.noElement("4", () -> x.log(0, 4));
        CHECK.noElement("also without a row", () -> x.log(7, 4));
        for (int far : FAR_OFF) {
            CHECK.same("ago " + far, x.log(far, 0), -2);
            CHECK.noElement("what " + far, () -> x.log(0, far));
            CHECK.noElement("both " + far, () -> x.log(far, far));
        }
    }

    private static void led() {
        CHECK.says(0, "LED: how many rows of THE LOG are of a PERSON; the NIGHT of the latest (none).");
        CHECK.says(56, "LED: how many rows (night false), or the NIGHT; NONE.");
        AbsentRings x = Check.told("night 5;walk 0;limit 9;dish 00000000;person weight 1;person weight 1");
        CHECK.same("no rows", x.led(1, false), 0);
        CHECK.same("no night", x.led(1, true), -1);
        x.leave(1);
        x.serve(0);
        x.leave(0);
        x.home(1);
        x.serve(0);
        CHECK.same("rows", x.led(1, false), 2);
        CHECK.same("the latest", x.led(1, true), 6);
        CHECK.same("rows of 0", x.led(0, false), 1);
        CHECK.same("night of 0", x.led(0, true), 6);
        CHECK.noIndex("2", () -> x.led(2, false));
        CHECK.noIndex("-1", () -> x.led(-1, true));
        AbsentRings y = Check.told("person weight 1");
        y.leave(0);
        CHECK.same("night 0 is no NONE", y.led(0, true), 0);
    }

    private static void seed() {
        CHECK.says(58, "SEED: what it was.");
        AbsentRings x = new AbsentRings();
        CHECK.same("1 at first", x.seed(Integer.MIN_VALUE), 1);
        CHECK.same("the least", x.seed(Integer.MAX_VALUE), Integer.MIN_VALUE);
        CHECK.same("the most", x.seed(0), Integer.MAX_VALUE);
        CHECK.same("0", x.seed(-1), 0);
        CHECK.same("-1", x.seed(1), -1);
        CHECK.isFalse("it is no act", x.undo());
        CHECK.same("no acts", x.count(12), 0);
    }

    private static void twelveActs() {
        CHECK.says(0, "UNDONE: the latest ACT not undone yet (12 are remembered; NIGHTS of one call are one)");
        CHECK.says(59, "UNDONE: whether there was one.");
        AbsentRings x = Check.told("person weight 1 vote 0");
        CHECK.isFalse("none", x.undo());
        for (int n = 1; n <= 12; n++) {
            x.vote(0, n);
            CHECK.same("acts", x.count(12), n);
        }
        for (int n = 11; n >= 0; n--) {
            CHECK.isTrue("undo to " + n, x.undo());
            CHECK.same("vote", x.person(0, 1), n);
            CHECK.same("acts", x.count(12), n);
        }
        CHECK.isFalse("none again", x.undo());
        for (int n = 1; n <= 13; n++) {
            x.vote(0, n);
        }
        CHECK.same("twelve of thirteen", x.count(12), 12);
        for (int n = 12; n >= 1; n--) {
            CHECK.isTrue("undo to " + n, x.undo());
        }
        CHECK.isFalse("the thirteenth ago is not remembered", x.undo());
        CHECK.same("vote", x.person(0, 1), 1);
    }

    private static void undoneWhole() {
        CHECK.says(0, "all is as ahead of it (but for the TAPE, fault(), THE IMAGE)");
        AbsentRings x = Check.told("walk 100;road 0 1;limit 1;dish 00000000;person weight 5 at 0");
        x.image();
        x.seed(3);
        Check.text(x, "?");
        CHECK.noArgument("a wrong text", () -> x.house());
        x.nights(60);
        Check.text(x, "abc");
        CHECK.isTrue("undo", x.undo());
        CHECK.same("night", x.count(4), 0);
        CHECK.same("cold", x.person(0, 6), 0);
        CHECK.same("place", x.person(0, 0), 0);
        CHECK.same("rows", x.count(11), 0);
        CHECK.same("seed", x.seed(3), 3);
        CHECK.same("fault stays", x.fault(), 0);
        CHECK.isTrue("the tape stays", x.end(3));
        CHECK.isTrue("the image stays", x.back());
        CHECK.same("its seed", x.seed(1), 1);
        AbsentRings y = Check.told("walk 0;dish 00000000;person weight 5");
        y.leave(0);
        y.image();
        y.undo();
        y.image();
        y.leave(0);
        y.undo();
        y.back();
        CHECK.same("an image kept later is not undone", y.person(0, 0), -1);
    }

    private static void undoneRoundTheRing() {
        AbsentRings x = Check.told("person weight 1 vote 0;person weight 1");
        // Acts and undoings in turn, so that what is remembered goes round more than once.
        int[] votes = new int[400];
        int depth = 0;
        int remembered = 0;
        for (int round = 0; round < 20; round++) {
            for (int i = 0; i < 7; i++) {
                int n = (round * 7 + i) % 21;
                CHECK.same("it was", x.vote(0, n), votes[depth]);
                depth++;
                votes[depth] = n;
                remembered = Math.min(12, remembered + 1);
            }
            for (int i = 0; i < 4; i++) {
                CHECK.isTrue("undo", x.undo());
                depth--;
                remembered--;
                CHECK.same("vote", x.person(0, 1), votes[depth]);
            }
            CHECK.same("remembered", x.count(12), remembered);
        }
    }

    private static void textsForget() {
        CHECK.says(0, "A text, going back: none are remembered.");
        AbsentRings x = Check.told("person weight 1");
        x.vote(0, 2);
        Check.text(x, "").house();
        CHECK.same("an empty text", x.count(12), 0);
        CHECK.isFalse("no undo", x.undo());
        x.vote(0, 3);
        Check.text(x, "").law();
        CHECK.isFalse("an empty law", x.undo());
        x.vote(0, 4);
        Check.text(x, "?");
        CHECK.noArgument("a wrong text", () -> x.house());
        Check.text(x, "?");
        CHECK.noArgument("a wrong law", () -> x.law());
        CHECK.same("wrong ones forget nothing", x.count(12), 1);
        x.image();
        CHECK.same("an image forgets nothing", x.count(12), 1);
        x.back();
        CHECK.same("going back does", x.count(12), 0);
        CHECK.isFalse("no undo behind it", x.undo());
        CHECK.same("vote", x.person(0, 1), 4);
        for (int i = x.count(2); i < 12; i++) {
            x.house();
        }
        x.vote(0, 5);
        CHECK.refuses("a thirteenth", UnsupportedOperationException.class, () -> x.house());
        CHECK.same("a thirteenth forgets nothing", x.count(12), 1);
    }

    private static void image() {
        CHECK.says(61, "One goes back to THE IMAGE: true; false, and nothing happens, if none was kept.");
        AbsentRings x = Check.told("person weight 1");
        x.vote(0, 9);
        CHECK.isFalse("none was kept", x.back());
        CHECK.same("vote", x.person(0, 1), 9);
        CHECK.same("acts are remembered", x.count(12), 1);
        CHECK.says(60, "THE IMAGE is kept.");
        x.image();
        x.vote(0, 8);
        CHECK.isTrue("back", x.back());
        CHECK.same("vote", x.person(0, 1), 9);
        CHECK.isTrue("back again", x.back());
        x.vote(0, 7);
        x.image();
        x.vote(0, 6);
        x.back();
        CHECK.same("the latest one", x.person(0, 1), 7);
        AbsentRings y = new AbsentRings();
        y.image();
        Check.text(y, "person weight 1;dish 11111111;road 0 1").house();
        Check.law(y, "more 1");
        CHECK.isTrue("back to nothing", y.back());
        CHECK.same("people", y.count(0), 0);
        CHECK.same("dishes", y.count(1), 0);
        CHECK.same("texts", y.count(2), 0);
        CHECK.same("law", y.count(3), -1);
        CHECK.isFalse("road", y.road(0, 1));
        CHECK.noIndex("no person", () -> y.person(0, 0));
    }

    private static void imageStays() {
        CHECK.says(0, "THE IMAGE (one) of all may be kept, and gone back to (but for the TAPE, fault() and THE IMAGE"
                + " itself).");
        AbsentRings x = Check.told("walk 0;limit 1;iron 50;dish 00000000;person weight 5;person weight 1 at 3 vote 7");
        x.leave(0);
        x.serve(0);
        x.off(1);
        x.promise(0, 1);
        x.seed(77);
        x.image();
        Check.text(x, "walk 9;limit 9;iron 9;quota 9;night 9;person weight 1 at 0;dish 33333333").house();
        x.rise(1);
        x.vote(1, 0);
        x.promise(0, -1);
        Check.text(x, "off?");
        CHECK.noArgument("a wrong law", () -> x.law());
        Check.text(x, "abcd");
        CHECK.isTrue("back", x.back());
        int[] due = {2, 1, 1, -1, 1, 1, 0, 1, 46, 2, 1, 4, 0};
        for (int what = 0; what < due.length; what++) {
            CHECK.same("count " + what, x.count(what), due[what]);
        }
        CHECK.same("dead one's place", x.person(1, 0), 3);
        CHECK.same("its vote", x.person(1, 1), 7);
        CHECK.same("promised", x.person(0, 4), 1);
        CHECK.same("cold", x.person(0, 6), 1);
        CHECK.same("seed", x.seed(77), 77);
        row(x, 0, 1, 1, 1, 3);
        CHECK.same("fault stays", x.fault(), 3);
        CHECK.isTrue("the tape stays", x.end(4));
        CHECK.isFalse("no byte more", x.end(5));
    }

    private static void manyCalls() {
        CHECK.says(0, "An object is used for at most 512 calls after it has been made");
        AbsentRings x = new AbsentRings();
        x.feed(0x70657273, 0x6f6e2077, 0x65696768, 0x74203920, 0x20202020);
        CHECK.same("call 2", x.house(), 1);
        for (int call = 3; call <= 510; call++) {
            int n = call % 21;
            CHECK.same("call " + call, x.vote(0, n), call == 3 ? 1 : (call - 1) % 21);
        }
        CHECK.same("call 511", x.count(12), 12);
        CHECK.isTrue("call 512", x.undo());
    }
}
