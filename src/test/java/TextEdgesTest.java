/** Edges of the terms and of promises 1 to 6 and 62: bounds of all numbers, the tape, texts and their first wrong byte. */
public final class TextEdgesTest {
    private static final Check CHECK = new Check("TextEdgesTest");
    private static final String PEOPLE = "person weight 1;person weight 1;person weight 1;person weight 1;"
            + "person weight 1;person weight 1;person weight 1;person weight 1";

    public static void main(String[] args) {
        newObject();
        atFirst();
        boundsOfPeople();
        boundsOfTheHouse();
        manyPeople();
        manyDishes();
        feedTakes();
        feedRefuses();
        end();
        twelveTexts();
        fourteenLines();
        personLine();
        dishLine();
        roadLine();
        promiseLine();
        digits();
        words();
        blanks();
        emptyTexts();
        moreMustCome();
        nothingStays();
        houseTapeIsUsedUp();
        lawLines();
        lawNumbers();
        lawGrammar();
        lawPlaces();
        lawDepth();
        lawInPlace();
        fault();
        counts();
        count();
        CHECK.finish();
    }

    private static String times(int n, String one, String between) {
        StringBuilder s = new StringBuilder();
        for (int i = 0; i < n; i++) {
            s.append(i == 0 ? "" : between).append(one);
        }
        return s.toString();
    }

    private static void wrong(AbsentRings x, String text, int due) {
        Check.text(x, text);
        CHECK.noArgument("house \"" + text + "\"", () -> x.house());
        CHECK.same("fault of \"" + text + "\"", x.fault(), due);
    }

    private static void wrong(String text, int due) {
        wrong(new AbsentRings(), text, due);
    }

    private static void wrongLaw(String text, int due) {
        AbsentRings x = new AbsentRings();
        Check.text(x, text);
        CHECK.noArgument("law \"" + text + "\"", () -> x.law());
        CHECK.same("fault of \"" + text + "\"", x.fault(), due);
    }

    private static void rightLaw(String text, int lines) {
        AbsentRings x = new AbsentRings();
        CHECK.same("law \"" + text + "\"", Check.text(x, text).law(), lines);
        CHECK.same("no fault of \"" + text + "\"", x.fault(), -1);
    }

    private static void newObject() {
        CHECK.says(1, "A house without PEOPLE.");
        AbsentRings x = new AbsentRings();
        CHECK.same("people", x.count(0), 0);
        CHECK.noIndex("person 0", () -> x.person(0, 0));
        CHECK.same("chairs", x.chairs(), 0);
        CHECK.same("rings", x.empty(), 0);
        CHECK.same("dishes", x.count(1), 0);
        CHECK.same("texts", x.count(2), 0);
        CHECK.same("law", x.count(3), -1);
        CHECK.same("dead", x.count(9), 0);
        CHECK.same("votes", x.count(10), 0);
        CHECK.same("rows", x.count(11), 0);
        CHECK.same("acts", x.count(12), 0);
        AbsentRings y = Check.told("person weight 1");
        CHECK.same("another object has its own", new AbsentRings().count(0), 0);
        CHECK.same("and the first one keeps it", y.count(0), 1);
    }

    private static void atFirst() {
        AbsentRings x = Check.told("person weight 5;person weight 6 at 3");
        CHECK.says(0, "with ROADS between them (each way; none at first)");
        for (int place = 0; place < 8; place++) {
            for (int other = 0; other < 8; other++) {
                if (place != other) {
                    CHECK.isFalse("road " + place + " " + other, x.road(place, other));
                }
            }
        }
        CHECK.says(0, "VOTE 0 to 20 (1 at first)");
        CHECK.same("vote", x.person(0, 1), 1);
        CHECK.says(0, "PROMISED to another one, or to none (at first)");
        CHECK.same("promised", x.person(0, 4), -1);
        CHECK.says(0, "DEAD (held to be) or not (not at first)");
        CHECK.same("dead", x.person(1, 5), 0);
        CHECK.says(0, "COLD: nights in a row on which its RING ate nothing, 0 to 99 (0 at first)");
        CHECK.same("cold", x.person(1, 6), 0);
        CHECK.says(0, "QUOTA 0 to 160 (1 at first)");
        CHECK.same("quota", x.count(5), 1);
        CHECK.says(0, "WALK 0 to 100 (50 at first)");
        CHECK.same("walk", x.count(6), 50);
        CHECK.says(0, "LIMIT 1 to 99 (9 at first)");
        CHECK.same("limit", x.count(7), 9);
        CHECK.says(0, "IRON 0 to 9999 (100 at first)");
        CHECK.same("iron", x.count(8), 100);
        CHECK.says(0, "NIGHT 0 to 9999 (0 at first)");
        CHECK.same("night", x.count(4), 0);
        CHECK.says(0, "(SEED 1 at first)");
        CHECK.same("seed", x.seed(0), 1);
    }

    /** The last numbers that are taken, and the first that are not, on either side. */
    private static void personBounds(String head, String tail, int least, int most, int what) {
        for (int n : new int[] {least, most}) {
            AbsentRings x = Check.told(head + n + tail);
            CHECK.same(head + n, x.person(0, what), n);
        }
        if (least > 0) {
            wrong(head + (least - 1) + tail, head.length());
        }
        wrong(head + (most + 1) + tail, head.length());
    }

    private static void boundsOfPeople() {
        CHECK.says(0, "WEIGHT of its RING 1 to 99");
        personBounds("person weight ", " at 1", 1, 99, 2);
        CHECK.says(0, "VOTE 0 to 20");
        personBounds("person weight 5 vote ", " legs 3", 0, 20, 1);
        CHECK.says(0, "LEGS of it: 3 or 4");
        personBounds("person weight 5 legs ", ";walk 3", 3, 4, 3);
        CHECK.says(0, "PLACES 0 to 7");
        personBounds("person weight 5 at ", " vote 3", 0, 7, 0);
        CHECK.says(0, "legs: 3 or 4 (4, if it is not told)");
        CHECK.same("not told", Check.told("person weight 5").person(0, 3), 4);
        CHECK.says(0, "at: a PLACE, else one is at HOME");
        CHECK.same("at home", Check.told("person weight 5 vote 2 legs 3").person(0, 0), -1);
    }

    private static void houseBounds(String word, int least, int most, int what) {
        String head = word + " ";
        for (int n : new int[] {least, most}) {
            AbsentRings x = Check.told(head + n);
            CHECK.same(head + n, x.count(what), n);
        }
        if (least > 0) {
            wrong(head + (least - 1), head.length());
        }
        wrong("  " + head + (most + 1), head.length() + 2);
    }

    private static void boundsOfTheHouse() {
        CHECK.says(0, "| dish F | road N N | quota N | walk N | limit N | iron N | night N | promise N N.");
        CHECK.says(0, "QUOTA 0 to 160");
        houseBounds("quota", 0, 160, 5);
        CHECK.says(0, "WALK 0 to 100");
        houseBounds("walk", 0, 100, 6);
        CHECK.says(0, "LIMIT 1 to 99");
        houseBounds("limit", 1, 99, 7);
        CHECK.says(0, "iron, night: 0 to 999.");
        houseBounds("iron", 0, 999, 8);
        houseBounds("night", 0, 999, 4);
    }

    private static void manyPeople() {
        CHECK.says(0, "PEOPLE (at most 8, numbered from 0 on)");
        AbsentRings x = Check.told(PEOPLE);
        CHECK.same("eight", x.count(0), 8);
        CHECK.same("the last one", x.person(7, 2), 1);
        CHECK.noIndex("no ninth", () -> x.person(8, 2));
        CHECK.says(0, "of a LINE, a PERSON, a DISH too many, the first word");
        wrong(x, "person weight 1", 0);
        wrong(x, "walk 3; person weight 1", 8);
        wrong(x, "person", 0);
        wrong(x, "person nonsense", 0);
        wrong(PEOPLE + "; person weight 1", PEOPLE.length() + 2);
        CHECK.same("still eight", x.count(0), 8);
    }

    private static void manyDishes() {
        CHECK.says(0, "DISHES (at most 6, numbered from 0 on)");
        String six = "dish 10000000;dish 20000000;dish 30000000;dish 40000000;dish 50000000;dish 60000000";
        AbsentRings x = Check.told(six);
        for (int dish = 0; dish < 6; dish++) {
            CHECK.same("dish " + dish, x.eaten(dish, 0), dish + 1);
        }
        CHECK.noIndex("no seventh", () -> x.eaten(6, 0));
        wrong(x, "quota 3 ;dish 00000000", 9);
        wrong(x, "dish", 0);
        wrong(six + ";dish 7", six.length() + 1);
        CHECK.same("still six", x.count(1), 6);
        CHECK.says(0, "of each PLACE how much of it is EATEN 0 to 9, if one is there.");
        AbsentRings y = Check.told("dish 90909090");
        CHECK.same("nine", y.eaten(0, 0), 9);
        CHECK.same("nought", y.eaten(0, 7), 0);
    }

    private static void feedTakes() {
        CHECK.says(2, "Twenty bytes come behind the TAPE, of each number the highest first: how many it has");
        AbsentRings x = new AbsentRings();
        // "dish 01234567;walk 7"
        CHECK.same("twenty", x.feed(0x64697368, 0x20303132, 0x33343536, 0x373b7761, 0x6c6b2037), 20);
        CHECK.same("a text", x.house(), 1);
        for (int place = 0; place < 8; place++) {
            CHECK.same("eaten " + place, x.eaten(0, place), place);
        }
        CHECK.same("walk", x.count(6), 7);
        AbsentRings y = Check.told("dish 00000000;dish 00000000;dish 00000000;dish 00000000;person weight 1 at 0 legs 3");
        y.feed(0x63000000, 0, 0, 0, 0);
        y.end(4);
        CHECK.same("the highest is the first, 99", y.lying(0), 1);
        y.feed(-1, 0, 0, 0, 0);
        y.end(4);
        CHECK.noArgument("bytes of a number below 0 are 255", () -> y.lying(0));
        y.feed(Integer.MIN_VALUE, 0, 0, 0, 0);
        y.end(4);
        CHECK.noArgument("its highest is 128", () -> y.lying(0));
        y.feed(0x00000001, 0, 0, 0, 0);
        y.end(3);
        y.feed(0x05000000, 0, 0, 0, 0);
        y.end(4);
        CHECK.same("bytes come behind the others", y.lying(0), 1);
    }

    private static void feedRefuses() {
        CHECK.says(2, "NONE, and none come, if it would have more than 400");
        AbsentRings x = new AbsentRings();
        for (int i = 1; i <= 20; i++) {
            CHECK.same("feed " + i, x.feed(0x20202020, 0x20202020, 0x20202020, 0x20202020, 0x20202020), 20 * i);
        }
        CHECK.same("420 are too many", x.feed(0x78787878, 0x78787878, 0x78787878, 0x78787878, 0x78787878), -1);
        CHECK.isTrue("still 400", x.end(400));
        x.end(381);
        CHECK.same("401 are too many", x.feed(0x78787878, 0x78787878, 0x78787878, 0x78787878, 0x78787878), -1);
        CHECK.isFalse("none came", x.end(382));
        CHECK.isTrue("still 381", x.end(381));
        CHECK.same("blanks alone", x.house(), 1);
        CHECK.same("room again", x.feed(0, 0, 0, 0, 0), 20);
    }

    private static void end() {
        CHECK.says(3, "The TAPE has its first n bytes alone: true");
        AbsentRings x = new AbsentRings();
        CHECK.isTrue("none of none", x.end(0));
        // "walk 77 walk 66 walk" and blanks
        x.feed(0x77616c6b, 0x20373720, 0x77616c6b, 0x20363620, 0x20202020);
        CHECK.isTrue("all", x.end(20));
        CHECK.isTrue("the first six", x.end(6));
        CHECK.same("read", x.house(), 1);
        CHECK.same("walk", x.count(6), 7);
        AbsentRings y = Check.told("dish 00000000;dish 00000000;person weight 1 at 0 legs 3");
        y.feed(0x00010001, -1, -1, -1, -1);
        y.end(2);
        CHECK.same("what was cut off is no row", y.where(false), 0);
        y.feed(0x0001ffff, -1, -1, -1, -1);
        y.end(2);
        CHECK.same("nor a byte of a dish", y.lying(0), 1);
        y.feed(0x6f666666, -1, -1, -1, -1);
        y.end(3);
        CHECK.same("nor of a text", y.law(), 1);
        CHECK.says(3, "false, and nothing happens, if it has fewer, or n is below 0");
        x.feed(0x77616c6b, 0x20373720, 0x20202020, 0x20202020, 0x20202020);
        CHECK.isFalse("one more than it has", x.end(21));
        CHECK.isFalse("below 0", x.end(-1));
        CHECK.isFalse("far below", x.end(Integer.MIN_VALUE));
        CHECK.isFalse("far above", x.end(Integer.MAX_VALUE));
        CHECK.same("it is whole", x.house(), 2);
        CHECK.same("walk", x.count(6), 77);
        CHECK.isFalse("one of none", x.end(1));
    }

    private static void twelveTexts() {
        CHECK.says(0, "THE HOUSE is told in texts (at most 12, one behind another)");
        CHECK.says(4, "how many there are");
        AbsentRings x = new AbsentRings();
        for (int i = 1; i <= 12; i++) {
            CHECK.same("text " + i, Check.text(x, "quota " + i).house(), i);
            CHECK.same("quota " + i, x.count(5), i);
        }
        CHECK.says(4, "UnsupportedOperationException: there are 12.");
        Check.text(x, "quota 99");
        CHECK.refuses("a thirteenth", UnsupportedOperationException.class, () -> x.house());
        CHECK.refuses("an empty thirteenth", UnsupportedOperationException.class, () -> Check.text(x, "").house());
        CHECK.same("quota stays", x.count(5), 12);
        CHECK.same("twelve stay", x.count(2), 12);
        CHECK.says(4, "IllegalArgumentException: it is wrong");
        wrong(x, "quota 161", 6);
        CHECK.says(0, "Of several exceptions the one told first is thrown");
        wrong(x, "x", 0);
        CHECK.same("a law is no text of the house", Check.text(x, "off").law(), 1);
        AbsentRings y = new AbsentRings();
        y.image();
        for (int i = 1; i <= 12; i++) {
            Check.text(y, "").house();
        }
        y.back();
        CHECK.same("gone back to none", Check.text(y, "").house(), 1);
        AbsentRings z = new AbsentRings();
        for (int i = 1; i <= 30; i++) {
            wrong(z, "wrong", 0);
            CHECK.same("laws do not count", Check.text(z, "more 1").law(), 1);
        }
        CHECK.same("wrong ones do not count", Check.text(z, "").house(), 1);
    }

    private static void fourteenLines() {
        CHECK.says(0, "LINE { ; LINE }, at most 14: person");
        String most = times(14, "walk 1", ";");
        CHECK.same("fourteen", Check.told(most).count(6), 1);
        wrong(most + ";walk 2", most.length() + 1);
        wrong(most + "  ;   walk 2", most.length() + 6);
        wrong(most + ";?", most.length() + 1);
        CHECK.says(0, "or the text's length, if more must come");
        wrong(most + "; ", most.length() + 2);
        wrong(most + " walk", most.length() + 1);
        CHECK.same("fourteen and blanks", Check.told(most + "   ").count(2), 1);
    }

    private static void personLine() {
        CHECK.says(0, "person weight N [ at N ] [ vote N ] [ legs N ]");
        AbsentRings x = Check.told("person weight 7 at 6 vote 5 legs 3;person weight 7 vote 5;person weight 7 legs 3;"
                + "person weight 7 at 6 legs 3");
        int[][] due = {{6, 5, 7, 3}, {-1, 5, 7, 4}, {-1, 1, 7, 3}, {6, 1, 7, 3}};
        for (int p = 0; p < due.length; p++) {
            for (int what = 0; what < 4; what++) {
                CHECK.same("person " + p + " what " + what, x.person(p, what), due[p][what]);
            }
        }
        CHECK.says(0, "The first wrong byte: the begin of the first thing that cannot stand there");
        wrong("person 7", 7);
        wrong("person at 6", 7);
        wrong("person weight at 6", 14);
        wrong("person weight ;", 14);
        wrong("person weight 7 weight 7", 16);
        wrong("person weight 7 8", 16);
        wrong("person weight 7 vote 5 at 6", 23);
        wrong("person weight 7 legs 3 at 6", 23);
        wrong("person weight 7 legs 3 vote 5", 23);
        wrong("person weight 7 at 6 at 6", 21);
        wrong("person weight 7 vote 5 vote 5", 23);
        wrong("person weight 7 legs 3 legs 3", 23);
        wrong("person weight 7 at vote 5", 19);
        wrong("person weight 7 vote legs 3", 21);
        wrong("person weight 7 legs ;", 21);
    }

    private static void dishLine() {
        CHECK.says(0, "F: eight figures, EATEN by PLACES");
        CHECK.same("eight", Check.told("dish 00000009").eaten(0, 7), 9);
        CHECK.says(0, "figures of another number");
        wrong("dish 0000000", 5);
        wrong("dish 000000000", 5);
        wrong("dish  0", 6);
        wrong("dish 0000 0000", 5);
        wrong("dish 0000000a", 5);
        wrong("dish x", 5);
        wrong("dish ;", 5);
        wrong("dish 00000000 0", 14);
        wrong("dish 00000000a", 13);
    }

    private static void roadLine() {
        CHECK.says(0, "road: two PLACES, the second not the first one, else it is wrong");
        AbsentRings x = Check.told("road 0 7;road 6 5;road 0 7;road 7 0");
        CHECK.isTrue("there", x.road(0, 7));
        CHECK.isTrue("and back", x.road(7, 0));
        CHECK.isTrue("the greater one first", x.road(5, 6));
        for (int place = 0; place < 8; place++) {
            wrong("road " + place + " " + place, 7);
        }
        wrong("road 8 0", 5);
        wrong("road 0 8", 7);
        wrong("road 8 8", 5);
        wrong("road 0 1 2", 9);
        wrong("road 0,1", 6);
    }

    private static void promiseLine() {
        CHECK.says(0, "promise: two PEOPLE that there are by then, the second not the first one");
        AbsentRings x = Check.told("person weight 1;person weight 1;promise 0 1;promise 1 0;person weight 1;promise 2 1");
        CHECK.same("0", x.person(0, 4), 1);
        CHECK.same("1", x.person(1, 4), 0);
        CHECK.same("2, who came later", x.person(2, 4), 1);
        Check.text(x, "promise 0 2").house();
        CHECK.same("told anew", x.person(0, 4), 2);
        CHECK.says(0, "or that tells none that can be");
        wrong("promise 0 1", 8);
        wrong("person weight 1;promise 0 1;person weight 1", 26);
        wrong("person weight 1;promise 1 0;person weight 1", 24);
        wrong(x, "promise 3 0", 8);
        wrong(x, "promise 0 3", 10);
        for (int p = 0; p < 3; p++) {
            wrong(x, "promise " + p + " " + p, 10);
        }
        CHECK.same("as it was", x.person(0, 4), 2);
        AbsentRings y = Check.told(PEOPLE, "promise 7 6");
        CHECK.same("the last one", y.person(7, 4), 6);
        wrong(y, "promise 7 8", 10);
        wrong(y, "promise 8 7", 8);
    }

    private static void digits() {
        CHECK.says(0, "Numbers are of 1 to 3 digits.");
        CHECK.same("one", Check.told("iron 7").count(8), 7);
        CHECK.same("three", Check.told("iron 007").count(8), 7);
        CHECK.same("noughts", Check.told("iron 000").count(8), 0);
        CHECK.says(0, "a number of more digits, or out of its bounds");
        wrong("iron 0007", 5);
        wrong("iron 0000", 5);
        wrong("iron 99999999999999999999", 5);
        wrong("quota 4294967297", 6);
        wrong("person weight 0001", 14);
        wrong("road 0000 1", 5);
        wrong("road 1 0000", 7);
        wrong("iron -1", 5);
        wrong("iron +1", 5);
        wrong("iron 1.0", 6);
    }

    private static void words() {
        CHECK.says(0, "Words are as long as a to z go on");
        CHECK.says(0, "a word that is none");
        wrong("personweight 1", 0);
        wrong("persons weight 1", 0);
        wrong("perso weight 1", 0);
        wrong("walkwalk 3", 0);
        wrong("Walk 3", 0);
        wrong("WALK 3", 0);
        wrong("waLk 3", 0);
        wrong("wal`k 3", 0);
        wrong("walk{ 3", 4);
        wrong("walk/3", 4);
        wrong("walk:3", 4);
        wrong("walk 3:", 6);
        wrong("walk 3/", 6);
        wrong("7", 0);
        wrong("more 3", 0);
        CHECK.same("a number ends a word", Check.told("walk3;person weight4at5vote6legs3").person(0, 0), 5);
        AbsentRings x = new AbsentRings();
        Check.tape(x, 'w', 'a', 'l', 'k' + 256, ' ', '3');
        CHECK.same("bytes alone are told", x.house(), 1);
        Check.tape(x, 'w', 'a', 'l', 'k' + 128, ' ', '3');
        CHECK.noArgument("a byte above 127", () -> x.house());
        CHECK.same("its word", x.fault(), 0);
    }

    private static void blanks() {
        CHECK.says(0, "between all there may be blanks (32), also ahead and behind");
        CHECK.same("everywhere", Check.told("   walk   3   ;   quota   4   ").count(5), 4);
        CHECK.same("nowhere", Check.told("walk3;quota4").count(5), 4);
        for (int sign : new int[] {0, 9, 10, 13, 31, 33, 160}) {
            AbsentRings x = new AbsentRings();
            Check.tape(x, 'w', 'a', 'l', 'k', sign, '3');
            CHECK.noArgument("no blank is " + sign, () -> x.house());
            CHECK.same("its begin", x.fault(), 4);
            Check.tape(x, sign);
            CHECK.noArgument("nor ahead", () -> x.law());
            CHECK.same("its begin", x.fault(), 0);
        }
        wrong("wa lk 3", 0);
        wrong("walk 1 2", 7);
        wrong("road 12", 5);
    }

    private static void emptyTexts() {
        CHECK.says(0, "A text that is empty, or blanks alone, has no LINE.");
        AbsentRings x = new AbsentRings();
        CHECK.same("empty", x.house(), 1);
        CHECK.same("one blank", Check.text(x, " ").house(), 2);
        CHECK.same("400 blanks", Check.text(x, " ".repeat(400)).house(), 3);
        CHECK.same("no fault", x.fault(), -1);
        CHECK.same("law: empty", x.law(), 0);
        CHECK.same("law: one blank", Check.text(x, " ").law(), 0);
        CHECK.same("law: 400 blanks", Check.text(x, " ".repeat(400)).law(), 0);
        CHECK.same("law: no fault", x.fault(), -1);
        wrong(";", 0);
        wrong("walk 3;", 7);
        wrong("walk 3;;walk 4", 7);
        wrongLaw(";", 0);
        wrongLaw("off;", 4);
        wrongLaw("off;;off", 4);
    }

    private static void moreMustCome() {
        CHECK.says(0, "or the text's length, if more must come");
        for (String begun : new String[] {"person", "person weight", "person weight 1 at", "person weight 1 at 2 vote",
            "person weight 1 legs", "dish", "road", "road 1", "quota", "walk", "limit", "iron", "night",
            "person weight 1;promise", "person weight 1;promise 0", "walk 3;", "walk 3 ;"}) {
            wrong(begun, begun.length());
            wrong(begun + "   ", begun.length() + 3);
        }
        for (String begun : new String[] {"more", "less", "off if", "more 3 if", "off if not", "off if (", "off if (three",
            "off if three and", "off if three or", "off if 1", "off if cold", "off if 1 +", "off if 1 <", "off if 1 < 2 +",
            "off if 1 >", "off if (1 < 2", "off;", "off ;"}) {
            wrongLaw(begun, begun.length());
            wrongLaw(begun + "  ", begun.length() + 2);
        }
        String full = " ".repeat(396) + "walk";
        wrong(full, 400);
    }

    private static void nothingStays() {
        CHECK.says(0, "Of a wrong text nothing stays.");
        String[] lines = {"person weight 9 at 1 vote 9 legs 3", "dish 99999999", "road 2 3", "quota 77", "walk 77",
            "limit 77", "iron 77", "night 77", "promise 0 1"};
        for (String line : lines) {
            AbsentRings x = Check.told("person weight 1;person weight 2;dish 00000000");
            wrong(x, line + ";x", line.length() + 1);
            int[] due = {2, 1, 1, -1, 0, 1, 50, 9, 100, 0, 2, 0, 0};
            for (int what = 0; what < due.length; what++) {
                CHECK.same(line + ": count " + what, x.count(what), due[what]);
            }
            CHECK.isFalse(line + ": road", x.road(2, 3));
            CHECK.same(line + ": promised", x.person(0, 4), -1);
            CHECK.noIndex(line + ": person", () -> x.person(2, 0));
            CHECK.noIndex(line + ": dish", () -> x.eaten(1, 0));
            Check.text(x, "person weight 3").house();
            CHECK.same(line + ": the next one is at home", x.person(2, 0), -1);
            CHECK.same(line + ": with one vote", x.person(2, 1), 1);
            CHECK.same(line + ": on four legs", x.person(2, 3), 4);
        }
        AbsentRings y = Check.told("dish 11111111;person weight 1");
        Check.law(y, "more 3");
        Check.text(y, "less 1;off;x");
        CHECK.noArgument("a wrong law", () -> y.law());
        CHECK.same("the one before", y.eats(0, 0, 0), 4);
        CHECK.same("its lines", y.count(3), 1);
        Check.text(y, "x");
        CHECK.noArgument("a wrong law again", () -> y.law());
        CHECK.same("still the one before", y.count(3), 1);
    }

    private static void houseTapeIsUsedUp() {
        CHECK.says(4, "Uses the TAPE up: a text of THE HOUSE");
        AbsentRings x = new AbsentRings();
        Check.text(x, "walk 3").house();
        CHECK.isFalse("by a right one", x.end(1));
        wrong(x, "walk 101", 5);
        CHECK.isFalse("by a wrong one", x.end(1));
        for (int i = 0; i < 11; i++) {
            x.house();
        }
        Check.text(x, "walk 4");
        CHECK.refuses("a thirteenth", UnsupportedOperationException.class, () -> x.house());
        CHECK.isFalse("by a thirteenth", x.end(1));
        CHECK.says(5, "Uses the TAPE up: THE LAW");
        Check.text(x, "off").law();
        CHECK.isFalse("by a right law", x.end(1));
        Check.text(x, "on");
        CHECK.noArgument("a wrong law", () -> x.law());
        CHECK.isFalse("by a wrong law", x.end(1));
    }

    private static void lawLines() {
        CHECK.says(0, "THE LAW (a text, in place of the one before): LINE { ; LINE }, at most 12: more N [ if C ] |"
                + " less N [ if C ] | off [ if C ].");
        rightLaw("more 1;less 1;off;more 1 if three;less 1 if three;off if three", 6);
        CHECK.says(5, "how many LINES");
        for (int n = 1; n <= 12; n++) {
            rightLaw(times(n, "off", ";"), n);
        }
        String most = times(12, "off", ";");
        wrongLaw(most + ";off", most.length() + 1);
        wrongLaw(most + " ;  more 3", most.length() + 4);
        wrongLaw(most + ";", most.length() + 1);
        wrongLaw(most + ";!", most.length() + 1);
        CHECK.says(5, "IllegalArgumentException: the text is wrong.");
        wrongLaw("person weight 1", 0);
        wrongLaw("of", 0);
        wrongLaw("offif three", 0);
        wrongLaw("off off", 4);
        wrongLaw("off if three off", 13);
    }

    private static void lawNumbers() {
        CHECK.says(0, "All numbers are of 1 to 3 digits (N 0 to 30).");
        for (String word : new String[] {"more", "less"}) {
            rightLaw(word + " 0", 1);
            rightLaw(word + " 30", 1);
            rightLaw(word + " 030", 1);
            wrongLaw(word + " 31", 5);
            wrongLaw(word + " 0030", 5);
            wrongLaw(word + " -1", 5);
        }
        rightLaw("off if 0 < 999", 1);
        wrongLaw("off if 0 < 1000", 11);
        wrongLaw("off if 0000 < 1", 7);
        wrongLaw("off if 1 + 0001 < 1", 11);
        wrongLaw("off 3", 4);
    }

    private static void lawGrammar() {
        CHECK.says(0, "C: ALL { or ALL }; ALL: ATOM { and ATOM }; ATOM: not ATOM | ( C ) | promised | three | SUM <"
                + " SUM | SUM > SUM.");
        rightLaw("off if promised and three or not promised and not three or(1<2)", 1);
        rightLaw("off if not(promised)and(three or promised)", 1);
        wrongLaw("off if", 6);
        wrongLaw("off promised", 4);
        wrongLaw("off if or three", 7);
        wrongLaw("off if three or", 15);
        wrongLaw("off if three and or three", 17);
        wrongLaw("off if three not three", 13);
        wrongLaw("off if three three", 13);
        wrongLaw("off if (three))", 14);
        wrongLaw("off if )", 7);
        wrongLaw("off if three < 3", 13);
        wrongLaw("off if 3 < three", 11);
        wrongLaw("off if promised + 1 < 3", 16);
        wrongLaw("off if cold", 11);
        wrongLaw("off if cold;off", 11);
        wrongLaw("off if cold and three", 12);
        wrongLaw("off if 1 < 2 > 3", 13);
        wrongLaw("off if 1 <> 2", 10);
        wrongLaw("off if 1 << 2", 10);
        wrongLaw("off if 1 <= 2", 10);
        wrongLaw("off if if three", 7);
        CHECK.says(0, "SUM: PART { + PART }; PART: NUMBER | person | place | dish | cold | vote | weight | night.");
        rightLaw("off if person+place+dish+cold+vote+weight+night+0<1+2+3", 1);
        wrongLaw("off if + 1 < 2", 7);
        wrongLaw("off if 1 + + 1 < 2", 11);
        wrongLaw("off if 1 - 1 < 2", 9);
        wrongLaw("off if 1 1 < 2", 9);
        wrongLaw("off if legs < 2", 7);
        wrongLaw("off if at < 2", 7);
    }

    private static void lawPlaces() {
        AbsentRings x = Check.told("dish 50000000;person weight 9 vote 0;person weight 1 at 0 vote 20 legs 3;promise 1 0");
        CHECK.says(0, "EATS: EATEN of the DISH at that PLACE and the sum of N of all more LINES that hold, less that"
                + " of all less LINES; 0 at least.");
        Check.law(x, times(12, "more 30", ";"));
        CHECK.same("the most of all", x.eats(0, 0, 0), 365);
        Check.law(x, times(12, "less 30", ";"));
        CHECK.same("the least of all", x.eats(0, 0, 0), 0);
        Check.law(x, "less 5");
        CHECK.same("just 0", x.eats(0, 0, 0), 0);
        Check.law(x, "less 4");
        CHECK.same("just 1", x.eats(0, 0, 0), 1);
        Check.law(x, "less 6;more 2");
        CHECK.same("together, not one behind another", x.eats(0, 0, 0), 1);
        Check.law(x, "less 30;more 30");
        CHECK.same("as much more as less", x.eats(0, 7, 0), 0);
        CHECK.says(0, "Of a PERSON at a PLACE and a DISH: promised: it is PROMISED; three: its RING has 3 LEGS.");
        Check.law(x, "more 1 if promised;more 2 if three;more 4 if vote>19;more 8 if vote<1;more 16 if weight>8;"
                + "more 3 if 999+999<998+999");
        CHECK.same("person 0", x.eats(0, 0, 0), 5 + 8 + 16);
        CHECK.same("person 1", x.eats(1, 0, 0), 5 + 1 + 2 + 4);
        Check.law(x, "more 1 if promised and three;more 2 if not promised;more 4 if not three;more 8 if promised and 1<2;"
                + "more 16 if 1<2 and three;more 30 if not not promised or not not three");
        CHECK.same("person 0 is neither", x.eats(0, 0, 0), 5 + 2 + 4);
        CHECK.same("person 1 is both", x.eats(1, 0, 0), 5 + 1 + 8 + 16 + 30);
        x.promise(1, -1);
        CHECK.same("promised no more", x.eats(1, 0, 0), 5 + 2 + 16 + 30);
        Check.law(x, "off");
        CHECK.same("off lines are not eaten", x.eats(0, 0, 0), 5);
    }

    private static void lawDepth() {
        CHECK.says(0, "( and not within one another at most 6 deep.");
        rightLaw("off if ((((((three))))))", 1);
        rightLaw("off if not not not not not not three", 1);
        rightLaw("off if (not(not(not three)))", 1);
        rightLaw("off if " + times(40, "(three)", "or"), 1);
        rightLaw("off if " + times(9, "not not not not not not three", " and "), 1);
        rightLaw("off if ((((((three))))));off if ((((((three))))))", 2);
        CHECK.says(0, "the ( or not that is a 7th one deep");
        wrongLaw("off if (((((((three)))))))", 13);
        wrongLaw("off if not not not not not not not three", 31);
        wrongLaw("off if not not not not not not(three)", 30);
        wrongLaw("off if ((((((  not three))))))", 15);
        wrongLaw("off if ((((((three or(three)))))))", 21);
        wrongLaw("off if (((((((", 13);
        wrongLaw("off if " + "(".repeat(390), 13);
        wrongLaw("off if " + times(98, "not", " "), 7 + 6 * 4);
    }

    private static void lawInPlace() {
        CHECK.says(0, "THE LAW (a text, in place of the one before)");
        AbsentRings x = Check.told("dish 11111111;person weight 1 at 0");
        Check.law(x, "more 3;off");
        CHECK.same("off by the law", x.person(0, 7), 1);
        Check.law(x, "more 4");
        CHECK.same("in place", x.eats(0, 0, 0), 5);
        CHECK.says(0, "without such LINES (or a text): COLD is LIMIT at least");
        CHECK.same("by the limit again", x.person(0, 7), 0);
        Check.law(x, "");
        CHECK.same("nothing more", x.eats(0, 0, 0), 1);
        CHECK.same("by the limit still", x.person(0, 7), 0);
        CHECK.same("no lines", x.count(3), 0);
    }

    private static void fault() {
        CHECK.says(6, "NONE without one, and ahead of any.");
        AbsentRings x = new AbsentRings();
        CHECK.same("ahead of any", x.fault(), -1);
        Check.text(x, "walk 3").house();
        CHECK.same("of a right one", x.fault(), -1);
        CHECK.says(6, "The first wrong byte of the latest text that was read");
        wrong(x, "walk 3;x;y", 7);
        CHECK.same("asked again", x.fault(), 7);
        Check.text(x, "off;z");
        CHECK.noArgument("law", () -> x.law());
        CHECK.same("of the law", x.fault(), 4);
        Check.text(x, "off").law();
        CHECK.same("of a right law", x.fault(), -1);
        wrong(x, "x", 0);
        Check.text(x, "").house();
        CHECK.same("of an empty one", x.fault(), -1);
    }

    private static void counts() {
        CHECK.says(62, "0 PEOPLE, 1 DISHES, 2 texts of THE HOUSE, 3 LINES of THE LAW (NONE without one), 4 NIGHT, 5"
                + " QUOTA, 6 WALK, 7 LIMIT, 8 IRON, 9 DEAD ones, as bits, 10 VOTES of those not DEAD together, 11"
                + " rows of THE LOG");
        AbsentRings x = Check.told("person weight 7;person weight 8 at 3 vote 9;person weight 1;dish 00000000;dish 00000000",
                "night 44;quota 55;walk 66;limit 77;iron 88", "", "");
        Check.law(x, "off;off;more 1;less 1;off");
        x.leave(0);
        x.off(1);
        x.vote(0, 20);
        int[] due = {3, 2, 4, 5, 44, 55, 66, 77, 89, 2, 21, 2, 3};
        for (int what = 0; what < due.length; what++) {
            CHECK.same("count " + what, x.count(what), due[what]);
        }
    }

    private static void count() {
        CHECK.says(62, "3 LINES of THE LAW (NONE without one)");
        AbsentRings x = Check.told("person weight 1 at 0 vote 20;person weight 1 at 0 vote 0;limit 1;dish 00000000");
        CHECK.same("without", x.count(3), -1);
        CHECK.same("with none", Check.text(x, "").law() + x.count(3), 0);
        CHECK.says(62, "9 DEAD ones, as bits, 10 VOTES of those not DEAD together");
        CHECK.same("votes", x.count(10), 20);
        x.serve(0);
        x.off(0);
        CHECK.same("dead", x.count(9), 1);
        CHECK.same("votes of the other one", x.count(10), 0);
        x.off(1);
        CHECK.same("all dead", x.count(9), 3);
        CHECK.same("votes of none", x.count(10), 0);
        CHECK.same("all are people still", x.count(0), 2);
        CHECK.says(62, "12 acts that can be UNDONE");
        CHECK.same("acts", x.count(12), 3);
        CHECK.says(62, "NONE for another what.");
        CHECK.same("-1", x.count(-1), -1);
        CHECK.same("13", x.count(13), -1);
        CHECK.same("the most", x.count(Integer.MAX_VALUE), -1);
        CHECK.same("the least", x.count(Integer.MIN_VALUE), -1);
        AbsentRings y = Check.told("quota 160", PEOPLE);
        for (int p = 0; p < 8; p++) {
            y.vote(p, 20);
        }
        CHECK.same("all votes there can be", y.count(10), 160);
        CHECK.isTrue("just the quota", y.wins(255));
        CHECK.isFalse("without one", y.wins(127));
    }
}
