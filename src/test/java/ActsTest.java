/** Promises 7, 11 to 18 and 56 to 61: people, acts, the log, the seed, acts undone and the image. */
public final class ActsTest {
    private static final Check CHECK = new Check("ActsTest");

    public static void main(String[] args) {
        person();
        leaveAndHome();
        ironIsBounded();
        serve();
        walking();
        off();
        rise();
        vote();
        promise();
        nights();
        nightIsBounded();
        logAndLed();
        logIsBounded();
        limitNight();
        seed();
        undo();
        image();
        CHECK.finish();
    }

    private static void person() {
        AbsentRings x = Check.told("road 0 1;road 1 2;dish 10000000;limit 2;walk 0;person weight 9 at 2 vote 3;"
                + "person weight 8 vote 4;person weight 7 at 6 vote 0 legs 3;promise 0 2");
        CHECK.same("soon by roads", x.person(0, 9), 3);
        CHECK.same("soon at home", x.person(1, 9), 0);
        CHECK.same("soon without a road", x.person(2, 9), -1);
        CHECK.same("share", x.person(0, 8), 42);
        CHECK.same("share of the other one", x.person(1, 8), 57);
        CHECK.same("promised", x.person(0, 4), 2);
        CHECK.same("may be off", x.person(0, 7), 0);
        x.nights(2);
        CHECK.same("cold", x.person(0, 6), 2);
        CHECK.same("may be off by the limit", x.person(0, 7), 1);
        CHECK.same("one at home may not", x.person(1, 7), 0);
        x.off(0);
        CHECK.same("dead", x.person(0, 5), 1);
        CHECK.same("where it was", x.person(0, 0), 2);
        CHECK.same("soon of a dead one", x.person(0, 9), -1);
        CHECK.same("a dead one may not", x.person(0, 7), 0);
        CHECK.same("its share", x.person(0, 8), 0);
        CHECK.same("all votes are the other one's", x.person(1, 8), 100);
        x.vote(1, 0);
        CHECK.same("share without votes", x.person(1, 8), 0);
        CHECK.noElement("what 10", () -> x.person(0, 10));
        CHECK.noElement("what -1", () -> x.person(0, -1));
        CHECK.noIndex("person 3", () -> x.person(3, 0));
        CHECK.noIndex("person -1 ahead of what", () -> x.person(-1, 77));
        Check.law(x, "off if night > 5 and place > 5 or vote > 19");
        CHECK.same("by the law", x.person(2, 7), 0);
        x.nights(5);
        CHECK.same("by the night", x.person(2, 7), 1);
    }

    private static void leaveAndHome() {
        AbsentRings x = Check.told("iron 20;road 0 1;walk 100;dish 00000000;person weight 9;person weight 11;"
                + "person weight 1;person weight 3 at 1");
        CHECK.same("leave", x.leave(0), 11);
        CHECK.same("at the gate", x.person(0, 0), 0);
        CHECK.noState("leave again", () -> x.leave(0));
        CHECK.same("leave with just enough", x.leave(1), 0);
        CHECK.noState("leave without iron", () -> x.leave(2));
        CHECK.noState("home of one at home", () -> x.home(2));
        CHECK.noState("home from place 1", () -> x.home(3));
        CHECK.noIndex("leave 4", () -> x.leave(4));
        CHECK.noIndex("leave -1", () -> x.leave(-1));
        CHECK.noIndex("home 4", () -> x.home(4));
        CHECK.same("nothing but two acts", x.count(12), 2);
        x.serve(0);
        CHECK.same("cold", x.person(3, 6), 1);
        CHECK.same("home", x.home(3), 3);
        CHECK.same("cold at home", x.person(3, 6), 0);
        CHECK.same("at home", x.person(3, 0), -1);
        CHECK.same("iron stays", x.count(8), 3);
        CHECK.noState("home from place 1", () -> x.home(0));
    }

    private static void ironIsBounded() {
        AbsentRings x = Check.told("iron 999;person weight 99 at 0;limit 1;dish 00000000");
        Check.law(x, "off");
        for (int i = 0; i < 40; i++) {
            x.off(0);
            x.rise(0);
            x.leave(0);
            x.off(0);
            x.rise(0);
            x.leave(0);
        }
        // Each time off and away again leaves the iron as it was: it grows only by a ring told.
        CHECK.same("iron", x.count(8), 999);
        AbsentRings y = Check.told("iron 999");
        int iron = 999;
        for (int text = 0; text < 2; text++) {
            Check.text(y, "person weight 99 at 0;person weight 99 at 0;person weight 99 at 0;person weight 99 at 0")
                    .house();
        }
        for (int p = 0; p < 8; p++) {
            iron += 99;
            CHECK.same("home", y.home(p), iron);
        }
    }

    private static void serve() {
        AbsentRings x = Check.told("walk 0;dish 01000000;dish 10000000;person weight 1 at 0;person weight 1 at 1;"
                + "person weight 1;person weight 1 at 5");
        CHECK.same("serve 0", x.serve(0), 2);
        CHECK.same("cold 0", x.person(0, 6), 1);
        CHECK.same("cold 1", x.person(1, 6), 0);
        CHECK.same("cold at home", x.person(2, 6), 0);
        CHECK.same("serve 1", x.serve(1), 2);
        CHECK.same("warm again", x.person(0, 6), 0);
        CHECK.same("cold in a row", x.person(3, 6), 2);
        CHECK.same("night", x.count(4), 2);
        CHECK.noIndex("serve 2", () -> x.serve(2));
        CHECK.noIndex("serve -1", () -> x.serve(-1));
        CHECK.same("night stays", x.count(4), 2);
    }

    /** By hand: SEED 1 draws 16838, 5758, 10113, 17515, 31051, 5627, 23010, 7419. */
    private static void walking() {
        AbsentRings x = Check.told("walk 39;road 0 1;road 0 2;road 0 5;dish 00000000;person weight 1 at 0;"
                + "person weight 1;person weight 1 at 0;person weight 1 at 7");
        // 16838 % 100 = 38: goes; 5758 % 3 = 1: to place 2. 10113 % 100 = 13: goes; 17515 % 3 = 1: to 2.
        // 31051 % 100 = 51: stays.
        x.serve(0);
        CHECK.same("0 goes", x.person(0, 0), 2);
        CHECK.same("1 is at home", x.person(1, 0), -1);
        CHECK.same("2 goes", x.person(2, 0), 2);
        CHECK.same("3 stays", x.person(3, 0), 7);
        // 5627 % 100 = 27: goes; 23010 % 1 = 0: to 0. 7419 % 100 = 19: goes by the draw behind it.
        x.serve(0);
        CHECK.same("0 goes back", x.person(0, 0), 0);
        CHECK.same("2 goes back", x.person(2, 0), 0);
        // 16838 % 100 = 38: goes; 5758 % 3 = 1: of 0, 2 and 6 to place 2; 10113: goes; 17515 % 3 = 1: of 0, 2, 3.
        AbsentRings u = Check.told("walk 39;road 1 0;road 1 2;road 1 6;dish 00000000;person weight 1 at 1;"
                + "person weight 1 at 4;road 4 0;road 4 2;road 4 3");
        u.serve(0);
        CHECK.same("in order", u.person(0, 0), 2);
        CHECK.same("the one behind the gate", u.person(1, 0), 2);
        AbsentRings y = Check.told("walk 38;road 0 1;dish 00000000;person weight 1 at 0;person weight 1 at 0");
        // 38 is not below 38: stays, and one draw is made; 5758 % 100 = 58: stays.
        y.serve(0);
        CHECK.same("just not below", y.person(0, 0), 0);
        CHECK.same("two draws", y.seed(1), seedAfter(1, 2));
        AbsentRings z = Check.told("walk 100;dish 00000000;person weight 1 at 3;person weight 1 at 4");
        z.serve(0);
        CHECK.same("without a road one draw each", z.seed(1), seedAfter(1, 2));
        AbsentRings v = Check.told("walk 0;road 3 4;dish 00000000;person weight 1 at 3");
        v.serve(0);
        CHECK.same("a draw also without walking", v.seed(1), seedAfter(1, 1));
    }

    private static int seedAfter(int seed, int draws) {
        int s = seed;
        for (int i = 0; i < draws; i++) {
            s = s * 1103515245 + 12345;
        }
        return s;
    }

    private static void off() {
        AbsentRings x = Check.told("walk 0;limit 2;iron 10;dish 00000001;person weight 9 at 1;person weight 5;"
                + "person weight 7 at 7");
        CHECK.noState("not cold", () -> x.off(0));
        x.serve(0);
        CHECK.noState("one night alone", () -> x.off(0));
        x.serve(0);
        CHECK.noState("one who eats", () -> x.off(2));
        CHECK.noState("one at home", () -> x.off(1));
        CHECK.noIndex("off 3", () -> x.off(3));
        CHECK.noIndex("off -1", () -> x.off(-1));
        CHECK.same("off", x.off(0), 19);
        CHECK.same("dead", x.person(0, 5), 1);
        CHECK.same("cold stays", x.person(0, 6), 2);
        CHECK.noState("off again", () -> x.off(0));
        CHECK.noState("a dead one cannot go away", () -> x.leave(0));
        x.serve(0);
        CHECK.same("a dead one lies no more", x.person(0, 6), 2);
        Check.law(x, "off if dish > 0 or cold < 0");
        CHECK.noState("by the law not", () -> x.off(2));
        Check.law(x, "less 9 if person > 8");
        CHECK.noState("without off lines: by the limit", () -> x.off(2));
        Check.law(x, "off if place > 6 and dish < 1;off if 2 < 1");
        CHECK.same("by the law", x.off(2), 26);
    }

    private static void rise() {
        AbsentRings x = Check.told("walk 0;limit 1;iron 10;dish 00000000;person weight 9 at 4;person weight 5");
        CHECK.noState("not dead", () -> x.rise(0));
        CHECK.noState("at home", () -> x.rise(1));
        CHECK.noIndex("rise 2", () -> x.rise(2));
        CHECK.noIndex("rise -1", () -> x.rise(-1));
        x.serve(0);
        x.off(0);
        CHECK.same("rise", x.rise(0), 4);
        CHECK.same("at home", x.person(0, 0), -1);
        CHECK.same("not dead", x.person(0, 5), 0);
        CHECK.same("cold", x.person(0, 6), 0);
        CHECK.same("iron stays", x.count(8), 19);
        CHECK.same("it can go away", x.leave(0), 10);
    }

    private static void vote() {
        AbsentRings x = Check.told("person weight 9;person weight 5 vote 7");
        CHECK.same("vote", x.vote(1, 20), 7);
        CHECK.same("what it is", x.person(1, 1), 20);
        CHECK.same("vote 0", x.vote(1, 0), 20);
        CHECK.noArgument("vote 21", () -> x.vote(1, 21));
        CHECK.noArgument("vote -1", () -> x.vote(1, -1));
        CHECK.noIndex("person 2 ahead of the vote", () -> x.vote(2, 99));
        CHECK.noIndex("person -1", () -> x.vote(-1, 3));
        CHECK.same("acts", x.count(12), 2);
    }

    private static void promise() {
        AbsentRings x = Check.told("person weight 9;person weight 5;person weight 3");
        CHECK.same("to none", x.promise(0, 1), -1);
        CHECK.same("to another one", x.promise(0, 2), 1);
        CHECK.same("to none again", x.promise(0, -1), 2);
        CHECK.same("promised to none", x.person(0, 4), -1);
        CHECK.noArgument("to oneself", () -> x.promise(1, 1));
        CHECK.noIndex("to 3", () -> x.promise(0, 3));
        CHECK.noIndex("to -2", () -> x.promise(0, -2));
        CHECK.noIndex("3 to 3", () -> x.promise(3, 3));
        CHECK.noIndex("-1 to none", () -> x.promise(-1, -1));
        CHECK.same("acts", x.count(12), 3);
    }

    private static void nights() {
        AbsentRings x = Check.told("walk 0;night 4;dish 10000000;dish 01000000;dish 00100000;person weight 1 at 1;"
                + "person weight 1 at 2");
        // Dishes 4 % 3 = 1, 2, 0, 1: at place 1 it eats on the first and the fourth, at 2 on the second.
        CHECK.same("nights", x.nights(4), 2 + 3);
        CHECK.same("cold at 1", x.person(0, 6), 0);
        CHECK.same("cold at 2", x.person(1, 6), 2);
        CHECK.same("night", x.count(4), 8);
        CHECK.same("one act", x.count(12), 1);
        CHECK.noArgument("none", () -> x.nights(0));
        CHECK.noArgument("61", () -> x.nights(61));
        CHECK.noArgument("-1", () -> x.nights(-1));
        CHECK.same("60", x.nights(60), 80);
        AbsentRings y = Check.told("walk 100;road 0 1;person weight 1 at 0;limit 1");
        CHECK.same("without dishes", y.nights(3), 0);
        CHECK.same("it goes", y.person(0, 0), 1);
        CHECK.same("and is not cold", y.person(0, 6), 0);
        CHECK.same("two draws each night", y.seed(1), seedAfter(1, 6));
        CHECK.same("nights go by", y.count(4), 3);
    }

    private static void nightIsBounded() {
        AbsentRings x = Check.told("night 999;walk 0;dish 00000000;dish 11111111;person weight 1 at 3");
        for (int i = 0; i < 149; i++) {
            x.nights(60);
        }
        CHECK.same("night 9939", x.count(4), 9939);
        x.nights(60);
        CHECK.same("night 9999", x.count(4), 9999);
        x.nights(60);
        CHECK.same("no more", x.count(4), 9999);
        CHECK.same("always dish 9999 % 2", x.person(0, 6), 0);
        x.serve(0);
        CHECK.same("serve at the end", x.count(4), 9999);
        CHECK.same("cold", x.person(0, 6), 1);
    }

    private static void row(AbsentRings x, int ago, int night, int person, int kind, int place) {
        CHECK.same("log night " + ago, x.log(ago, 0), night);
        CHECK.same("log person " + ago, x.log(ago, 1), person);
        CHECK.same("log kind " + ago, x.log(ago, 2), kind);
        CHECK.same("log place " + ago, x.log(ago, 3), place);
    }

    private static void logAndLed() {
        AbsentRings x = Check.told("walk 0;limit 2;dish 00000000;person weight 9 at 4;person weight 5;night 7;"
                + "person weight 2");
        CHECK.same("without rows", x.log(0, 0), -2);
        CHECK.same("led none", x.led(0, false), 0);
        CHECK.same("led no night", x.led(0, true), -1);
        x.leave(1);
        x.nights(2);
        x.off(0);
        x.nights(1);
        x.rise(0);
        x.home(1);
        CHECK.same("rows", x.count(11), 6);
        row(x, 5, 7, 1, 0, 0);
        row(x, 4, 8, 0, 3, 4);
        row(x, 3, 8, 1, 3, 0);
        row(x, 2, 9, 0, 1, 4);
        row(x, 1, 10, 0, 2, 4);
        row(x, 0, 10, 1, 2, 0);
        CHECK.same("none so long ago", x.log(6, 3), -2);
        CHECK.same("none to come", x.log(-1, 0), -2);
        CHECK.same("ever", x.log(Integer.MAX_VALUE, 0) + x.log(Integer.MIN_VALUE, 0), -4);
        CHECK.noElement("what 4", () -> x.log(0, 4));
        CHECK.noElement("what -1", () -> x.log(99, -1));
        CHECK.same("led 0", x.led(0, false), 3);
        CHECK.same("led 1", x.led(1, false), 3);
        CHECK.same("led 2", x.led(2, false), 0);
        CHECK.same("led 0 at night", x.led(0, true), 10);
        CHECK.same("led 2 at none", x.led(2, true), -1);
        x.nights(4);
        x.leave(2);
        CHECK.same("led 2 by its one row", x.led(2, true), 14);
        CHECK.noIndex("led 3", () -> x.led(3, true));
        CHECK.noIndex("led -1", () -> x.led(-1, false));
    }

    private static void logIsBounded() {
        AbsentRings x = Check.told("person weight 9;person weight 8");
        x.leave(1);
        for (int i = 0; i < 30; i++) {
            x.leave(0);
            if (i < 29) {
                x.home(0);
            }
        }
        CHECK.same("sixty rows", x.count(11), 60);
        row(x, 59, 0, 1, 0, 0);
        CHECK.same("led of the oldest", x.led(1, false), 1);
        x.home(0);
        CHECK.same("still sixty", x.count(11), 60);
        row(x, 59, 0, 0, 0, 0);
        CHECK.same("the oldest is gone", x.led(1, false), 0);
        row(x, 0, 0, 0, 2, 0);
        CHECK.same("no row more", x.log(60, 0), -2);
        x.undo();
        row(x, 59, 0, 1, 0, 0);
    }

    private static void limitNight() {
        AbsentRings x = Check.told("walk 0;limit 99;dish 00000000;person weight 9 at 4");
        x.nights(60);
        x.nights(38);
        CHECK.same("98 nights", x.count(11), 0);
        x.nights(1);
        CHECK.same("the 99th", x.count(11), 1);
        CHECK.same("cold 99", x.person(0, 6), 99);
        x.nights(5);
        CHECK.same("99 at most", x.person(0, 6), 99);
        CHECK.same("the 100th is not the 99th", x.count(11), 1);
        row(x, 0, 98, 0, 3, 4);
        AbsentRings y = Check.told("walk 0;limit 3;dish 00000000;dish 11111111;person weight 9 at 4");
        for (int i = 0; i < 3; i++) {
            y.serve(0);
        }
        y.serve(0);
        CHECK.same("once in a row", y.count(11), 1);
        y.serve(1);
        for (int i = 0; i < 3; i++) {
            y.serve(0);
        }
        CHECK.same("in another row once more", y.count(11), 2);
    }

    private static void seed() {
        AbsentRings x = Check.told("walk 0;dish 00000000;person weight 9 at 4");
        CHECK.same("seed", x.seed(-7), 1);
        CHECK.same("it was", x.seed(-7), -7);
        CHECK.same("no act", x.count(12), 0);
        x.serve(0);
        CHECK.same("a draw", x.seed(3), seedAfter(-7, 1));
        x.undo();
        CHECK.same("as ahead of the act", x.seed(1), -7);
    }

    private static void undo() {
        AbsentRings x = Check.told("walk 50;road 0 1;limit 1;iron 50;dish 00000000;person weight 9;person weight 8");
        x.leave(0);
        x.leave(1);
        x.nights(9);
        x.off(1);
        x.rise(1);
        x.vote(1, 9);
        x.promise(1, 0);
        CHECK.same("acts", x.count(12), 7);
        CHECK.isTrue("undo promise", x.undo());
        CHECK.same("promised", x.person(1, 4), -1);
        CHECK.isTrue("undo vote", x.undo());
        CHECK.same("vote", x.person(1, 1), 1);
        CHECK.isTrue("undo rise", x.undo());
        CHECK.same("dead", x.count(9), 2);
        CHECK.isTrue("undo off", x.undo());
        CHECK.same("dead no more", x.count(9), 0);
        CHECK.isTrue("undo nights", x.undo());
        CHECK.same("night", x.count(4), 0);
        CHECK.same("rows", x.count(11), 2);
        CHECK.same("seed", x.seed(1), 1);
        CHECK.same("place", x.person(0, 0), 0);
        CHECK.isTrue("undo leave", x.undo());
        CHECK.same("iron", x.count(8), 41);
        CHECK.isTrue("undo leave", x.undo());
        CHECK.same("iron", x.count(8), 50);
        CHECK.isFalse("none left", x.undo());
        for (int i = 1; i <= 14; i++) {
            x.vote(0, i);
        }
        CHECK.same("twelve are remembered", x.count(12), 12);
        for (int i = 12; i > 0; i--) {
            CHECK.isTrue("undo", x.undo());
        }
        CHECK.isFalse("no thirteenth", x.undo());
        CHECK.same("the vote two acts later", x.person(0, 1), 2);
        x.vote(0, 5);
        x.undo();
        x.vote(0, 6);
        CHECK.same("one act", x.count(12), 1);
        x.feed(0, 0, 0, 0, 0);
        x.undo();
        CHECK.isTrue("the tape stays", x.end(20));
        x.vote(0, 7);
        Check.text(x, "walk 3").house();
        CHECK.isFalse("not behind a text", x.undo());
    }

    private static void image() {
        AbsentRings x = Check.told("walk 50;road 0 1;limit 1;iron 50;dish 10000000;person weight 9;person weight 8");
        Check.law(x, "more 1;off");
        x.leave(0);
        x.seed(77);
        x.image();
        CHECK.same("acts stay", x.count(12), 1);
        Check.text(x, "person weight 3;dish 22222222;road 3 4;quota 9;walk 9;limit 9;iron 9;night 9;promise 0 1").house();
        Check.law(x, "");
        x.seed(5);
        x.nights(3);
        x.feed(0, 0, 0, 0, 0);
        for (int time = 0; time < 2; time++) {
            CHECK.isTrue("back", x.back());
            int[] due = {2, 1, 1, 2, 0, 1, 50, 1, 41, 0, 2, 1, 0};
            for (int what = 0; what < due.length; what++) {
                CHECK.same("back: count " + what, x.count(what), due[what]);
            }
            CHECK.same("back: seed", x.seed(1), 77);
            CHECK.same("back: law", x.eats(0, 0, 0), 2);
            CHECK.isFalse("back: road", x.road(3, 4));
            CHECK.same("back: promised", x.person(0, 4), -1);
            CHECK.isTrue("back: the tape stays", x.end(20));
            CHECK.isFalse("back: no act", x.undo());
            // What happens behind the going back must not reach the image.
            x.vote(0, 20);
            x.serve(0);
            Check.text(x, "dish 22222222;road 3 4").house();
            Check.law(x, "less 30;more 1;more 1");
            x.end(0);
            x.feed(0, 0, 0, 0, 0);
        }
        x.image();
        x.vote(0, 3);
        x.back();
        CHECK.same("the latest image", x.person(0, 1), 20);
        x.leave(1);
        x.image();
        x.undo();
        CHECK.same("undone", x.person(1, 0), -1);
        x.back();
        CHECK.same("as in the image", x.person(1, 0), 0);
    }
}
