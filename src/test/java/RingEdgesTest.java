/** Edges of chairs, rings, iron, the cook, starving, rings alike and nights tried out: promises 43 to 46 and 48 to 55. */
public final class RingEdgesTest {
    private static final Check CHECK = new Check("RingEdgesTest");
    private static final int[] FAR_OFF = {Integer.MIN_VALUE, Integer.MIN_VALUE + 1, -256, 256, Integer.MAX_VALUE};
    private static final String EIGHT_AWAY = "person weight 99 at 0;person weight 99 at 0;person weight 99 at 0;"
            + "person weight 99 at 0;person weight 99 at 0;person weight 99 at 0;person weight 99 at 0;"
            + "person weight 99 at 0";

    public static void main(String[] args) {
        chairs();
        empty();
        lasts();
        heaviest();
        restsJust();
        restsFar();
        restsRefused();
        coldest();
        starves();
        starvesByTheLaw();
        starvesOfNone();
        alike();
        fills();
        ahead();
        aheadStandsStill();
        trialRefused();
        trialAtTheGate();
        trialCold();
        trialLeavesNothing();
        span();
        spanOfSixSeeds();
        spanRefused();
        CHECK.finish();
    }

    private static void chairs() {
        CHECK.says(0, "CHAIRS: how many are at HOME");
        CHECK.says(43, "CHAIRS.");
        CHECK.same("without people", new AbsentRings().chairs(), 0);
        CHECK.same("all away", Check.told(EIGHT_AWAY).chairs(), 0);
        AbsentRings x = Check.told(EIGHT_AWAY);
        for (int p = 0; p < 8; p++) {
            x.home(p);
            CHECK.same("home " + p, x.chairs(), p + 1);
        }
        AbsentRings y = Check.told("walk 0;limit 1;dish 00000000;person weight 1 at 0");
        y.serve(0);
        y.off(0);
        CHECK.same("a dead one has none", y.chairs(), 0);
        y.rise(0);
        CHECK.same("one who came back has", y.chairs(), 1);
    }

    private static void empty() {
        CHECK.says(0, "EMPTY: RINGS that lie (of those AWAY), as bits.");
        CHECK.says(44, "EMPTY, as bits.");
        CHECK.same("without people", new AbsentRings().empty(), 0);
        AbsentRings x = Check.told("walk 0;limit 1;dish 00000000", EIGHT_AWAY);
        CHECK.same("all", x.empty(), 255);
        x.home(0);
        x.home(7);
        CHECK.same("all but two", x.empty(), 126);
        x.serve(0);
        x.off(1);
        CHECK.same("not of the dead", x.empty(), 124);
    }

    private static void lasts() {
        CHECK.says(0, "LASTS: how many of those at HOME can go away, by numbers, till IRON does not do for one (that"
                + " one and all behind are not counted).");
        CHECK.says(45, "LASTS.");
        CHECK.same("without people", new AbsentRings().lasts(), 0);
        AbsentRings x = Check.told("walk 0;limit 1;dish 00000000;iron 10;person weight 4;person weight 90 at 0;"
                + "person weight 6;person weight 1");
        CHECK.same("just two", x.lasts(), 2);
        Check.text(x, "iron 9").house();
        CHECK.same("one too little: not the light one behind either", x.lasts(), 1);
        Check.text(x, "iron 11").house();
        CHECK.same("just three", x.lasts(), 3);
        Check.text(x, "iron 4").house();
        CHECK.same("just one", x.lasts(), 1);
        Check.text(x, "iron 3").house();
        CHECK.same("none", x.lasts(), 0);
        Check.text(x, "iron 999").house();
        CHECK.same("all at home alone", x.lasts(), 3);
        x.serve(0);
        x.off(1);
        CHECK.same("not a dead one", x.lasts(), 3);
        CHECK.same("nothing happens", x.chairs(), 3);
        AbsentRings y = Check.told(EIGHT_AWAY);
        for (int p = 0; p < 8; p++) {
            y.home(p);
        }
        CHECK.same("all eight, iron 892", y.lasts(), 8);
        Check.text(y, "iron 792").house();
        CHECK.same("all eight, just", y.lasts(), 8);
        Check.text(y, "iron 791").house();
        CHECK.same("all but the last", y.lasts(), 7);
    }

    private static void heaviest() {
        CHECK.says(0, "HEAVIEST: the RING that lies of the most WEIGHT (of several the least; none).");
        CHECK.says(46, "HEAVIEST; NONE.");
        CHECK.same("without people", new AbsentRings().heaviest(), -1);
        CHECK.same("at home alone", Check.told("person weight 9").heaviest(), -1);
        AbsentRings x = Check.told("walk 0;limit 1;dish 00000000;person weight 99;person weight 8 at 1;"
                + "person weight 9 at 1;person weight 9 at 2;person weight 1 at 3");
        CHECK.same("of several the least", x.heaviest(), 2);
        x.serve(0);
        x.off(2);
        CHECK.same("not a dead one's", x.heaviest(), 3);
        x.off(3);
        CHECK.same("the next", x.heaviest(), 1);
        x.off(1);
        x.off(4);
        CHECK.same("none", x.heaviest(), -1);
    }

    /** One turns back by 9 less SOON, goes on by VOTE: at the gate 8, so the vote 8 is as good. */
    private static void restsJust() {
        CHECK.says(0, "RESTS of one who is AWAY and the cook: the one turns back (0) or goes on (1), the cook serves"
                + " (0) or not (1), unseen");
        CHECK.says(0, "the cook has 4 by serving one who turns back, 3 less by serving one who goes on, 1 less by not"
                + " serving one who turns back, else nothing");
        CHECK.says(0, "choices (2 times the one's and the cook's) from which neither would have more by the other one"
                + " of its own: as bits");
        AbsentRings x = Check.told("dish 00000000;person weight 1 at 0 vote 7;person weight 1 at 0 vote 8;"
                + "person weight 1 at 0 vote 9;person weight 1 at 0 vote 0;person weight 1 at 0 vote 20");
        CHECK.same("vote 7: back and served", x.rests(0), 1);
        CHECK.same("vote 8: also on and not served", x.rests(1), 9);
        CHECK.same("vote 9: on and not served", x.rests(2), 8);
        CHECK.same("vote 0", x.rests(3), 1);
        CHECK.same("vote 20", x.rests(4), 8);
    }

    private static void restsFar() {
        CHECK.says(0, "the one has by turning back 9 less SOON (9 less 20, if that is none), by going on VOTE");
        AbsentRings x = Check.told("dish 00000000;road 0 1;road 1 2;road 2 3;road 3 4;road 4 5;road 5 6;road 6 7;"
                + "person weight 1 at 7 vote 1;person weight 1 at 7 vote 0;person weight 1 at 7 vote 2");
        CHECK.same("eight nights: 1 and vote 1", x.rests(0), 9);
        CHECK.same("vote 0", x.rests(1), 1);
        CHECK.same("vote 2", x.rests(2), 8);
        AbsentRings y = Check.told("dish 99999999;person weight 1 at 7 vote 0");
        CHECK.says(0, "and EATS of DISH 0 more, if the cook serves");
        CHECK.same("no way home: 11 below 0, and vote 0", y.rests(0), 8);
        Check.law(y, "more 30");
        CHECK.same("what is served comes to both choices", y.rests(0), 8);
    }

    private static void restsRefused() {
        CHECK.says(0, "none without DISHES");
        CHECK.says(48, "RESTS, as bits; NONE. IllegalStateException: that one is not AWAY.");
        AbsentRings x = Check.told("person weight 1 at 0;person weight 1");
        CHECK.same("without dishes", x.rests(0), -1);
        CHECK.noState("at home", () -> x.rests(1));
        CHECK.noIndex("2", () -> x.rests(2));
        CHECK.noIndex("-1", () -> x.rests(-1));
        for (int far : FAR_OFF) {
            CHECK.noIndex("far off " + far, () -> x.rests(far));
        }
        Check.law(x, "off");
        x.off(0);
        CHECK.noState("dead", () -> x.rests(0));
    }

    private static void coldest() {
        CHECK.says(0, "COLDEST: who is AWAY of the most COLD (of several the least; none).");
        CHECK.says(49, "COLDEST; NONE.");
        CHECK.same("without people", new AbsentRings().coldest(), -1);
        CHECK.same("at home alone", Check.told("person weight 1").coldest(), -1);
        AbsentRings x = Check.told("walk 0;limit 1;dish 01000000;dish 00000000;person weight 1;person weight 1 at 1;"
                + "person weight 1 at 2;person weight 1 at 3");
        CHECK.same("none cold: the least", x.coldest(), 1);
        x.serve(0);
        CHECK.same("two: the least", x.coldest(), 2);
        x.off(2);
        CHECK.same("not a dead one", x.coldest(), 3);
        x.off(3);
        CHECK.same("one who is not cold", x.coldest(), 1);
    }

    private static void starves() {
        CHECK.says(0, "STARVES of a PERSON: the first N (1 to 60) AHEAD by which its RING MAY BE OFF; none (also, if"
                + " it is not AWAY).");
        CHECK.says(50, "STARVES; NONE.");
        AbsentRings x = Check.told("walk 100;road 0 1;limit 60;dish 00000000;person weight 1 at 0");
        CHECK.same("60", x.starves(0), 60);
        Check.text(x, "limit 61").house();
        CHECK.same("61 are none", x.starves(0), -1);
        Check.text(x, "limit 1").house();
        CHECK.same("1", x.starves(0), 1);
        CHECK.same("no draw", x.seed(1), 1);
        CHECK.same("nothing happens", x.count(4) + x.count(11) + x.count(12) + x.person(0, 6) + x.person(0, 0), 0);
        Check.text(x, "walk 0;limit 3").house();
        x.nights(2);
        CHECK.same("from cold 2", x.starves(0), 1);
        x.nights(5);
        CHECK.same("1 at least, also if it may already", x.starves(0), 1);
        Check.text(x, "dish 11111111;limit 7").house();
        CHECK.same("from cold 7 on night 7 of dish 1: never", x.starves(0), -1);
    }

    private static void starvesByTheLaw() {
        AbsentRings x = Check.told("walk 0;dish 11111111;person weight 1 at 0");
        Check.law(x, "off if night > 59");
        CHECK.same("night 60", x.starves(0), 60);
        Check.law(x, "off if night > 60");
        CHECK.same("night 61", x.starves(0), -1);
        Check.law(x, "off if night < 1");
        CHECK.same("now, but on no night ahead", x.starves(0), -1);
        Check.law(x, "off");
        CHECK.same("always", x.starves(0), 1);
    }

    private static void starvesOfNone() {
        AbsentRings x = Check.told("walk 0;person weight 1 at 0;person weight 1;limit 1");
        CHECK.same("without dishes", x.starves(0), -1);
        CHECK.same("at home", x.starves(1), -1);
        Check.law(x, "off");
        CHECK.same("at home, by the law", x.starves(1), -1);
        CHECK.same("without dishes, by the law", x.starves(0), 1);
        x.off(0);
        CHECK.same("dead", x.starves(0), -1);
        CHECK.noIndex("2", () -> x.starves(2));
        CHECK.noIndex("-1", () -> x.starves(-1));
        for (int far : FAR_OFF) {
            CHECK.noIndex("far off " + far, () -> x.starves(far));
        }
    }

    private static void alike() {
        CHECK.says(0, "ALIKE: pairs of PEOPLE of like VOTE, WEIGHT and LEGS: how many.");
        CHECK.says(51, "ALIKE.");
        CHECK.same("without people", new AbsentRings().alike(), 0);
        CHECK.same("one alone", Check.told("person weight 1").alike(), 0);
        CHECK.same("all of eight", Check.told(EIGHT_AWAY).alike(), 28);
        CHECK.same("another vote", Check.told("person weight 1 vote 2;person weight 1 vote 3").alike(), 0);
        CHECK.same("another weight", Check.told("person weight 1;person weight 2").alike(), 0);
        CHECK.same("other legs", Check.told("person weight 1 legs 3;person weight 1").alike(), 0);
        AbsentRings x = Check.told("walk 0;limit 1;dish 00000000;person weight 1 at 5;person weight 1 vote 1 legs 4");
        CHECK.same("another place", x.alike(), 1);
        x.serve(0);
        x.off(0);
        CHECK.same("a dead one, too", x.alike(), 1);
    }

    private static void fills() {
        CHECK.says(0, "FILLS of a DISH: what all who are AWAY EAT of it together.");
        CHECK.says(52, "FILLS.");
        AbsentRings x = Check.told("walk 0;limit 1;dish 90000000;dish 00000000", EIGHT_AWAY);
        CHECK.same("eight by nine", x.fills(0), 72);
        CHECK.same("nothing", x.fills(1), 0);
        Check.law(x, "more 30;more 30;more 30;more 30;more 30;more 30;more 30;more 30;more 30;more 30;more 30;more 30");
        CHECK.same("the most of all", x.fills(0), 8 * 369);
        Check.law(x, "off;less 5 if person > 0");
        CHECK.same("0 at least, each of its own", x.fills(1), 0);
        CHECK.same("by persons", x.fills(0), 9 + 7 * 4);
        x.off(0);
        x.home(1);
        CHECK.same("of those away", x.fills(0), 6 * 4);
        CHECK.noIndex("2", () -> x.fills(2));
        CHECK.noIndex("-1", () -> x.fills(-1));
        for (int far : FAR_OFF) {
            CHECK.noIndex("far off " + far, () -> x.fills(far));
        }
        AbsentRings y = new AbsentRings();
        CHECK.noIndex("without dishes", () -> y.fills(0));
    }

    private static void ahead() {
        CHECK.says(0, "AHEAD by N NIGHTS (0 to 60): as so many NIGHTS of no DISH told without (a) (no DRAWS).");
        CHECK.says(53, "AHEAD of a PERSON: COLD. IllegalArgumentException: N is none.");
        AbsentRings x = Check.told("walk 100;road 0 1;limit 2;dish 01000000;dish 00000000;person weight 1 at 0;"
                + "person weight 1 at 1;person weight 1");
        CHECK.same("0", x.ahead(0, 0), 0);
        CHECK.same("60", x.ahead(0, 60), 60);
        CHECK.same("each other night: dish 0", x.ahead(1, 1), 0);
        CHECK.same("each other night: dish 1", x.ahead(1, 60), 1);
        CHECK.same("at home", x.ahead(2, 60), 0);
        CHECK.noArgument("61", () -> x.ahead(0, 61));
        CHECK.noArgument("-1", () -> x.ahead(0, -1));
        CHECK.noArgument("61 of one at home", () -> x.ahead(2, 61));
        CHECK.noIndex("3 ahead of 61", () -> x.ahead(3, 61));
        CHECK.noIndex("-1 ahead of -1", () -> x.ahead(-1, -1));
        for (int far : FAR_OFF) {
            CHECK.noArgument("nights " + far, () -> x.ahead(0, far));
            CHECK.noIndex("person " + far, () -> x.ahead(far, 0));
        }
        CHECK.same("nothing happens", x.count(4) + x.count(11) + x.count(12) + x.person(0, 6), 0);
        CHECK.same("no draw", x.seed(1), 1);
        CHECK.same("nobody goes", x.person(0, 0), 0);
    }

    private static void aheadStandsStill() {
        AbsentRings x = Check.told("walk 0;limit 2;dish 00000000;person weight 1 at 0;person weight 1");
        x.nights(60);
        CHECK.same("98", x.ahead(0, 38), 98);
        CHECK.same("99", x.ahead(0, 39), 99);
        CHECK.same("99 at most", x.ahead(0, 40), 99);
        Check.law(x, "off");
        x.off(0);
        CHECK.same("a dead one stays as cold", x.ahead(0, 60), 60);
        AbsentRings y = Check.told("walk 0;person weight 1 at 0");
        CHECK.same("without dishes", y.ahead(0, 60), 0);
        AbsentRings z = Check.told("walk 0;dish 00000000;person weight 1 at 0");
        Check.law(z, "more 1 if night > 58");
        CHECK.same("the nights are counted: 59", z.ahead(0, 59), 59);
        CHECK.same("the nights are counted: 60", z.ahead(0, 60), 0);
    }

    private static void trialRefused() {
        CHECK.says(54, "TRIAL: how many (cold false), or who, as bits. IllegalArgumentException: N is none.");
        AbsentRings x = new AbsentRings();
        for (boolean cold : new boolean[] {false, true}) {
            CHECK.same("0 of nobody", x.trial(0, cold), 0);
            CHECK.same("60 of nobody", x.trial(60, cold), 0);
            CHECK.noArgument("61", () -> x.trial(61, cold));
            CHECK.noArgument("-1", () -> x.trial(-1, cold));
            for (int far : FAR_OFF) {
                CHECK.noArgument("nights " + far, () -> x.trial(far, cold));
            }
        }
    }

    private static void trialAtTheGate() {
        CHECK.says(0, "TRIAL of N NIGHTS of no DISH told (0 to 60) from now (draws, too; nothing stays): of those"
                + " AWAY then how many are at PLACE 0");
        AbsentRings x = Check.told("walk 100;road 0 1;limit 9;person weight 1 at 0;person weight 1 at 1;person weight 1 at 0;"
                + "person weight 1");
        for (int n = 0; n <= 60; n++) {
            CHECK.same("there and back " + n, x.trial(n, false), n % 2 == 0 ? 2 : 1);
        }
        Check.law(x, "off");
        x.off(0);
        CHECK.same("not a dead one", x.trial(0, false), 1);
        CHECK.same("not one at home", x.trial(1, false), 1);
        CHECK.same("all eight", Check.told(EIGHT_AWAY).trial(60, false), 8);
    }

    private static void trialCold() {
        CHECK.says(0, "who is COLD for LIMIT NIGHTS at least, as bits");
        AbsentRings x = Check.told("walk 0;limit 60;dish 01000000;person weight 1 at 0;person weight 1 at 1;"
                + "person weight 1 at 2;person weight 1");
        CHECK.same("59", x.trial(59, true), 0);
        CHECK.same("60", x.trial(60, true), 5);
        Check.text(x, "limit 1").house();
        CHECK.same("limit 1, no night", x.trial(0, true), 0);
        CHECK.same("limit 1, one night", x.trial(1, true), 5);
        x.serve(0);
        CHECK.same("from now", x.trial(0, true), 5);
        x.off(2);
        CHECK.same("not a dead one", x.trial(60, true), 1);
        Check.law(x, "off if 2 < 1");
        CHECK.same("the law's off lines are not asked", x.trial(1, true), 1);
        AbsentRings y = Check.told("walk 0;limit 1;dish 00000000", EIGHT_AWAY);
        CHECK.same("all eight", y.trial(1, true), 255);
    }

    private static void trialLeavesNothing() {
        CHECK.says(0, "(draws, too; nothing stays)");
        AbsentRings x = Check.told("walk 50;road 0 1;road 1 2;limit 2;dish 01000000;person weight 1 at 0;"
                + "person weight 1 at 2");
        x.seed(99);
        x.nights(3);
        int seed = x.seed(0);
        x.seed(seed);
        int state = x.count(4) + 100 * x.count(11) + 10000 * x.person(0, 0) + 100000 * x.person(1, 0)
                + 1000000 * x.person(0, 6);
        int first = x.trial(60, true);
        CHECK.same("the same again", x.trial(60, true), first);
        CHECK.same("seed", x.seed(seed), seed);
        CHECK.same("state", x.count(4) + 100 * x.count(11) + 10000 * x.person(0, 0) + 100000 * x.person(1, 0)
                + 1000000 * x.person(0, 6), state);
        CHECK.same("acts", x.count(12), 1);
        int gate = x.trial(7, false);
        x.nights(7);
        int now = (x.person(0, 0) == 0 ? 1 : 0) + (x.person(1, 0) == 0 ? 1 : 0);
        CHECK.same("as it comes", now, gate);
    }

    private static void span() {
        CHECK.says(0, "SPAN: the least and the greatest COLD of all AWAY together so from SEED 1, 2, .. 6.");
        AbsentRings x = Check.told("walk 0;limit 1;dish 00000000", EIGHT_AWAY);
        CHECK.same("no night: least", x.span(0, false), 0);
        CHECK.same("sixty: least", x.span(60, false), 480);
        CHECK.same("sixty: most", x.span(60, true), 480);
        x.nights(60);
        CHECK.same("99 at most each", x.span(60, true), 792);
        CHECK.same("from now", x.span(0, true), 480);
        x.off(0);
        x.home(1);
        CHECK.same("of those away", x.span(0, true), 360);
        CHECK.same("acts", x.count(12), 3);
    }

    private static void spanOfSixSeeds() {
        // At 0 it eats, at 1 it is cold; for one night, by the seeds' first draws, some walks tell seeds apart.
        int[] first = new int[8];
        for (int seed = 1; seed <= 7; seed++) {
            first[seed] = (1103515245 * seed + 12345 >>> 16 & 32767) % 100;
        }
        for (int walk = 0; walk <= 100; walk++) {
            AbsentRings x = Check.told("walk " + walk + ";road 0 1;dish 10000000;person weight 1 at 0");
            x.seed(7);
            int going = 0;
            for (int seed = 1; seed <= 6; seed++) {
                going += first[seed] < walk ? 1 : 0;
            }
            CHECK.same("least by " + walk, x.span(1, false), going == 6 ? 1 : 0);
            CHECK.same("most by " + walk, x.span(1, true), going > 0 ? 1 : 0);
            CHECK.same("seed stays", x.seed(1), 7);
        }
    }

    private static void spanRefused() {
        CHECK.says(55, "SPAN: the least (most false), or the greatest. IllegalArgumentException: N is none.");
        AbsentRings x = new AbsentRings();
        for (boolean most : new boolean[] {false, true}) {
            CHECK.same("0 of nobody", x.span(0, most), 0);
            CHECK.same("60 of nobody", x.span(60, most), 0);
            CHECK.noArgument("61", () -> x.span(61, most));
            CHECK.noArgument("-1", () -> x.span(-1, most));
            for (int far : FAR_OFF) {
                CHECK.noArgument("nights " + far, () -> x.span(far, most));
            }
        }
    }
}
