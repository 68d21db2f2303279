/** Promises 1 to 6 and 62: a new object, the tape, the texts of the house and the law, the first wrong byte. */
public final class TextsTest {
    private static final Check CHECK = new Check("TextsTest");

    public static void main(String[] args) {
        newObject();
        feed();
        end();
        houseTexts();
        houseFaults();
        houseLimits();
        lawTexts();
        lawFaults();
        lawDepth();
        faultStays();
        count();
        CHECK.finish();
    }

    private static void newObject() {
        AbsentRings x = new AbsentRings();
        int[] due = {0, 0, 0, -1, 0, 1, 50, 9, 100, 0, 0, 0, 0};
        for (int what = 0; what < due.length; what++) {
            CHECK.same("new: count " + what, x.count(what), due[what]);
        }
        CHECK.same("new: fault", x.fault(), -1);
        CHECK.same("new: seed", x.seed(1), 1);
        CHECK.isFalse("new: back", x.back());
        CHECK.isFalse("new: undo", x.undo());
        CHECK.same("NONE", AbsentRings.NONE, -1);
        CHECK.isTrue("new: the tape is empty", x.end(0));
        CHECK.isFalse("new: the tape has no byte", x.end(1));
        for (int place = 1; place < 8; place++) {
            CHECK.isFalse("new: road", x.road(0, place));
        }
    }

    private static void feed() {
        AbsentRings x = new AbsentRings();
        for (int i = 1; i <= 20; i++) {
            CHECK.same("feed " + i, x.feed(0x20202020, 0x20202020, 0x20202020, 0x20202020, 0x20202020), 20 * i);
        }
        CHECK.same("feed beyond 400", x.feed(0, 0, 0, 0, 0), -1);
        CHECK.same("400 blanks", x.house(), 1);
        // The highest byte comes first: "road 0 1" and blanks.
        CHECK.same("feed a text", x.feed(0x726f6164, 0x20302031, 0x20202020, 0x20202020, 0x20202020), 20);
        CHECK.same("read it", x.house(), 2);
        CHECK.isTrue("it was read", x.road(1, 0));
        x.feed(0, 0, 0, 0, 0);
        x.end(1);
        CHECK.same("feed behind one byte", x.feed(0, 0, 0, 0, 0), 21);
        for (int i = 0; i < 18; i++) {
            x.feed(0, 0, 0, 0, 0);
        }
        CHECK.same("381 bytes have no room", x.feed(0, 0, 0, 0, 0), -1);
        x.end(380);
        CHECK.same("380 bytes have", x.feed(0, 0, 0, 0, 0), 400);
        // A byte above 127 is no sign of a text, nor a small number.
        CHECK.same("fault of 255", fault(Check.tape(x, 255)), 0);
    }

    private static int fault(AbsentRings x) {
        CHECK.noArgument("house", () -> x.house());
        return x.fault();
    }

    private static void end() {
        AbsentRings x = new AbsentRings();
        x.feed(0, 0, 0, 0, 0);
        CHECK.isFalse("end -1", x.end(-1));
        CHECK.isFalse("end 21", x.end(21));
        CHECK.isFalse("end at its least", x.end(Integer.MIN_VALUE));
        CHECK.isFalse("end at its most", x.end(Integer.MAX_VALUE));
        CHECK.isTrue("end 20", x.end(20));
        CHECK.isTrue("end 7", x.end(7));
        CHECK.isFalse("end 8", x.end(8));
        CHECK.isTrue("end 7 again", x.end(7));
        CHECK.same("feed behind 7", x.feed(0, 0, 0, 0, 0), 27);
        CHECK.isTrue("end 0", x.end(0));
        CHECK.same("an empty tape is a text", x.house(), 1);
    }

    private static void houseTexts() {
        AbsentRings x = Check.told("  person weight 30 ;person   weight 7 at 5;person weight 99 vote 20;"
                + "person weight 1 at 0 vote 0 legs 3;person weight 2 legs 4 ; dish 01234567;dish 98765432;"
                + "road 0 7;quota 160;walk 100;limit 99;iron 999;night 999;promise 3 0  ");
        int[][] due = {{-1, 1, 30, 4, -1}, {5, 1, 7, 4, -1}, {-1, 20, 99, 4, -1}, {0, 0, 1, 3, 0}, {-1, 1, 2, 4, -1}};
        for (int p = 0; p < 5; p++) {
            for (int what = 0; what < 5; what++) {
                CHECK.same("person " + p + " what " + what, x.person(p, what), due[p][what]);
            }
        }
        CHECK.same("eaten 0 6", x.eaten(0, 6), 6);
        CHECK.same("eaten 1 0", x.eaten(1, 0), 9);
        CHECK.isTrue("road each way", x.road(0, 7) && x.road(7, 0));
        int[] counts = {5, 2, 1, -1, 999, 160, 100, 99, 999, 0, 23, 0, 0};
        for (int what = 0; what < counts.length; what++) {
            CHECK.same("count " + what, x.count(what), counts[what]);
        }
        // Nothing needs blanks but two numbers, or two words.
        Check.text(x, "person weight1at2vote3legs3;road 2 3;walk007").house();
        CHECK.same("without blanks: place", x.person(5, 0), 2);
        CHECK.same("without blanks: vote", x.person(5, 1), 3);
        CHECK.same("noughts ahead", x.count(6), 7);
        CHECK.same("texts", x.count(2), 2);
        Check.text(x, "promise 3 5; promise 5 3;night 0;iron 0;quota 0;limit 1;walk 0").house();
        CHECK.same("the least of all", x.count(4) + x.count(8) + x.count(5) + x.count(7) + x.count(6), 1);
        Check.text(x, "iron 999").house();
        CHECK.same("promised anew", x.person(3, 4), 5);
        CHECK.same("the ring told is in no log, and costs no iron", x.count(11) + x.count(8), 999);
    }

    private static void houseFault(String text, int due) {
        AbsentRings x = Check.told("person weight 5;road 0 1;iron 50");
        x.vote(0, 3);
        x.image();
        Check.text(x, text);
        CHECK.noArgument("house \"" + text + "\"", () -> x.house());
        CHECK.same("fault of \"" + text + "\"", x.fault(), due);
        CHECK.same("people stay", x.count(0), 1);
        CHECK.same("dishes stay", x.count(1), 0);
        CHECK.same("texts stay", x.count(2), 1);
        CHECK.same("quota stays", x.count(5), 1);
        CHECK.same("iron stays", x.count(8), 50);
        CHECK.same("acts stay", x.count(12), 1);
        CHECK.isFalse("roads stay", x.road(2, 3));
        CHECK.isTrue("the tape is used up", x.end(0) && !x.end(1));
    }

    private static void houseFaults() {
        houseFault("quota 5;road 2 3;iron 7;dish 00000000;person weight 1;", 54);
        houseFault("road 2 3;;", 9);
        houseFault(";", 0);
        houseFault("  x", 2);
        houseFault("Road 2 3", 0);
        houseFault("roads 2 3", 0);
        houseFault("roadz 2 3", 0);
        houseFault("road 8 3", 5);
        houseFault("road 9 3", 5);
        houseFault("person weight 3 at 8", 19);
        houseFault("person weight 3 at 9", 19);
        houseFault("road", 4);
        houseFault("road  ", 6);
        houseFault("road 2", 6);
        houseFault("road 23", 5);
        houseFault("road 2 3 4", 9);
        houseFault("road 2 8", 7);
        houseFault("road 2 0002", 7);
        houseFault("road 0002 3", 5);
        houseFault("road -2 3", 5);
        houseFault("road 7 07", 7);
        houseFault("dish", 4);
        houseFault("dish a", 5);
        houseFault("dish 0123 4567", 5);
        houseFault("dish 012345678", 5);
        houseFault("dish 01234567 8", 14);
        houseFault("person", 6);
        houseFault("person weigh 3", 7);
        houseFault("person weight", 13);
        houseFault("person weight 100", 14);
        houseFault("person weight 3 at", 18);
        houseFault("person weight 3 vote 2 at 1", 23);
        houseFault("person weight 3 legs 3 vote 2", 23);
        houseFault("person weight 3 at 1 at 2", 21);
        houseFault("person weight 3 legs 2", 21);
        houseFault("person weight 3 legs 5", 21);
        houseFault("person weight 3 vote 21", 21);
        houseFault("person weight 0 at 9", 14);
        houseFault("quota 161", 6);
        houseFault("walk 101", 5);
        houseFault("limit 0", 6);
        houseFault("limit 100", 6);
        houseFault("iron 1000", 5);
        houseFault("night 1000", 6);
        houseFault("night five", 6);
        houseFault("promise 1 0", 8);
        houseFault("promise 0 1", 10);
        houseFault("promise 0 0", 10);
        houseFault("promise 0 1;person weight 1", 10);
        houseFault("person weight 1;promise 0 1 ,", 28);
        houseFault("\trail", 0);
    }

    private static void houseLimits() {
        StringBuilder lines = new StringBuilder("walk 1");
        for (int i = 1; i < 14; i++) {
            lines.append(";walk ").append(i);
        }
        AbsentRings x = Check.told(lines.toString());
        CHECK.same("fourteen lines", x.count(6), 13);
        int length = lines.length();
        CHECK.same("a fifteenth line", fault(Check.text(x, lines + "; walk 9")), length + 2);
        CHECK.same("a fifteenth that is none", fault(Check.text(x, lines + ";x")), length + 1);
        CHECK.same("a fifteenth must come", fault(Check.text(x, lines + "; ")), length + 2);
        Check.text(x, "person weight 1;person weight 1;person weight 1;person weight 1;person weight 1").house();
        CHECK.same("a ninth person", fault(Check.text(x, "person weight 1;person weight 1;person weight 1; person")),
                49);
        Check.text(x, "person weight 1;person weight 1;person weight 1").house();
        CHECK.same("eight people", x.count(0), 8);
        Check.text(x, "dish 00000000;dish 00000000;dish 00000000;dish 00000000;dish 00000000;dish 11111111").house();
        CHECK.same("six dishes", x.count(1), 6);
        CHECK.same("a seventh dish", fault(Check.text(x, "walk 3;dish 00000000")), 7);
        for (int i = 5; i <= 12; i++) {
            CHECK.same("text " + i, Check.text(x, "night " + i).house(), i);
        }
        Check.text(x, "night");
        CHECK.noArgument("a thirteenth that is wrong", () -> x.house());
        CHECK.same("its fault", x.fault(), 5);
        Check.text(x, "night 77");
        CHECK.refuses("a thirteenth", UnsupportedOperationException.class, () -> x.house());
        CHECK.same("nothing of it stays", x.count(4), 12);
        CHECK.same("texts", x.count(2), 12);
        CHECK.isFalse("its tape is used up", x.end(1));
        CHECK.same("the latest text was not wrong", x.fault(), -1);
    }

    private static void lawTexts() {
        AbsentRings x = Check.told("person weight 5 at 1;dish 33333333");
        CHECK.same("one line", Check.text(x, "more 2").law(), 1);
        CHECK.same("more", x.eats(0, 0, 0), 5);
        CHECK.same("in place of it", Check.text(x, " less 1 ; less 30 if place > 6 ").law(), 2);
        CHECK.same("less", x.eats(0, 0, 0), 2);
        CHECK.same("0 at least", x.eats(0, 7, 0), 0);
        CHECK.same("count", x.count(3), 2);
        CHECK.same("blanks alone", Check.text(x, "   ").law(), 0);
        CHECK.same("no line", x.count(3), 0);
        CHECK.same("as without", x.eats(0, 0, 0), 3);
        StringBuilder lines = new StringBuilder("more 1");
        for (int i = 1; i < 12; i++) {
            lines.append(";more 1");
        }
        CHECK.same("twelve lines", Check.text(x, lines.toString()).law(), 12);
        CHECK.same("their sum", x.eats(0, 0, 0), 15);
        x.vote(0, 2);
        Check.text(x, lines + " ;more 1");
        CHECK.noArgument("a thirteenth line", () -> x.law());
        CHECK.same("its fault", x.fault(), lines.length() + 2);
        CHECK.same("the one before stays", x.count(3), 12);
        CHECK.same("acts stay", x.count(12), 1);
        CHECK.same("the least and the most", Check.text(x, "more 0;less 0;more 30").law(), 3);
        CHECK.same("33", x.eats(0, 0, 0), 33);
        x.vote(0, 2);
        Check.text(x, "off").law();
        CHECK.same("a text: no acts", x.count(12), 0);
        StringBuilder longest = new StringBuilder(" more 1 if 1");
        while (longest.length() < 398) {
            longest.append("+1");
        }
        longest.append(">0");
        CHECK.same("as long as the tape", longest.length(), 400);
        for (int i = 0; i < 5; i++) {
            CHECK.same("a long text", Check.text(x, longest.toString()).law(), 1);
            CHECK.same("holds", x.eats(0, 0, 0), 4);
        }
        CHECK.same("no fault", x.fault(), -1);
    }

    private static void lawFault(String text, int due) {
        AbsentRings x = new AbsentRings();
        Check.text(x, text);
        CHECK.noArgument("law \"" + text + "\"", () -> x.law());
        CHECK.same("fault of \"" + text + "\"", x.fault(), due);
        CHECK.same("no law", x.count(3), -1);
        CHECK.isFalse("the tape is used up", x.end(1));
    }

    private static void lawFaults() {
        lawFault("more", 4);
        lawFault("more ;", 5);
        lawFault("more 31", 5);
        lawFault("less 0001", 5);
        lawFault("less if", 5);
        lawFault("more 1 when", 7);
        lawFault("more 1 2", 7);
        lawFault("off 1", 4);
        lawFault("off if", 6);
        lawFault("off if ;", 7);
        lawFault("off if promised three", 16);
        lawFault("off if promised and", 19);
        lawFault("off if promised or or", 19);
        lawFault("off if and", 7);
        lawFault("off if 1", 8);
        lawFault("off if 1 < ", 11);
        lawFault("off if 1 = 2", 9);
        lawFault("off if 1 < 2 < 3", 13);
        lawFault("off if 1 + < 3", 11);
        lawFault("off if 1 + (2) < 3", 11);
        lawFault("off if 1 + not < 3", 11);
        lawFault("off if 1000 < 3", 7);
        lawFault("off if 1 < 1000", 11);
        lawFault("off if place 1 < 2", 13);
        lawFault("off if persons < 2", 7);
        lawFault("off if (promised", 16);
        lawFault("off if (promised;", 16);
        lawFault("off if promised)", 15);
        lawFault("off if ()", 8);
        lawFault("off if (1 + 2) < 3", 13);
        lawFault("off if not", 10);
        lawFault("off if notpromised", 7);
        lawFault("off;", 4);
        lawFault("off;person weight 1", 4);
        lawFault("OFF", 0);
    }

    private static void lawDepth() {
        AbsentRings x = new AbsentRings();
        CHECK.same("six deep", Check.text(x, "off if ((((((promised))))))").law(), 1);
        CHECK.same("not and ( together", Check.text(x, "off if not(not(not(promised)))").law(), 1);
        CHECK.same("not within one another", Check.text(x,
                "off if (((three)))and((((((three))))))or not not not not not not three and not three").law(), 1);
        Check.text(x, "off if (((((((promised)))))))");
        CHECK.noArgument("seven deep", () -> x.law());
        CHECK.same("the seventh", x.fault(), 13);
        Check.text(x, "off if not(not(not(not promised)))");
        CHECK.noArgument("seven deep by both", () -> x.law());
        CHECK.same("the seventh of both", x.fault(), 19);
        Check.text(x, "off if ((((((not promised))))))");
        CHECK.noArgument("a not within six", () -> x.law());
        CHECK.same("that not", x.fault(), 13);
    }

    private static void faultStays() {
        AbsentRings x = new AbsentRings();
        fault(Check.text(x, "  ?"));
        x.image();
        CHECK.same("fault", x.fault(), 2);
        CHECK.isTrue("back", x.back());
        CHECK.same("fault is not gone back to", x.fault(), 2);
        Check.tape(x, 9, 9);
        CHECK.noArgument("where", () -> x.where(true));
        CHECK.same("rows are no text", x.fault(), 2);
        Check.text(x, "off").law();
        CHECK.same("a right one", x.fault(), -1);
        Check.text(x, "on");
        CHECK.noArgument("law", () -> x.law());
        CHECK.same("a wrong law", x.fault(), 0);
    }

    private static void count() {
        AbsentRings x = Check.told("person weight 5 at 0 vote 4;person weight 6 at 0 vote 9;limit 1;dish 00000000");
        CHECK.same("votes", x.count(10), 13);
        x.serve(0);
        CHECK.same("rows", x.count(11), 2);
        CHECK.same("acts", x.count(12), 1);
        x.off(1);
        CHECK.same("dead", x.count(9), 2);
        CHECK.same("votes of those not dead", x.count(10), 4);
        CHECK.same("iron", x.count(8), 106);
        CHECK.same("night", x.count(4), 1);
        for (int what : new int[] {-1, 13, 14, Integer.MIN_VALUE, Integer.MAX_VALUE}) {
            CHECK.same("count " + what, x.count(what), -1);
        }
    }
}
