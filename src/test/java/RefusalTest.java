import java.util.NoSuchElementException;

/**
 * A call that throws changes nothing but the TAPE, where it is used up, and a call that asks changes nothing: of two
 * objects made alike one is asked, and both must be alike then, also behind undoing all acts and going back.
 */
public final class RefusalTest {
    private static final Check CHECK = new Check("RefusalTest");
    private static final Class<?> INDEX = IndexOutOfBoundsException.class;
    private static final Class<?> ARGUMENT = IllegalArgumentException.class;
    private static final Class<?> STATE = IllegalStateException.class;
    private static final Class<?> ELEMENT = NoSuchElementException.class;
    private static final int TAPE = 5;

    interface Ask {
        void of(AbsentRings x);
    }

    public static void main(String[] args) {
        CHECK.says(0, "Of several exceptions the one told first is thrown; a call that throws changes nothing but the"
                + " TAPE, where it is used up.");
        refusedActs();
        refusedQuestions();
        refusedTexts();
        refusedTapes();
        questions();
        questionsByTheTape();
        theFirstTold();
        CHECK.finish();
    }

    /** Person 0 is away at 1 and cold, 1 is dead, 2 at home; two acts can be undone, and an image is kept. */
    private static AbsentRings made() {
        AbsentRings x = Check.told("walk 0;road 0 1;road 1 2;limit 1;iron 9;night 40;dish 01000000;dish 00000000;"
                + "person weight 3 at 1 legs 3;person weight 2 at 0 vote 5;person weight 90 vote 7;promise 0 1;quota 4");
        Check.law(x, "more 2 if person > 1;off if cold > 0");
        x.image();
        x.serve(1);
        Check.text(x, "walk 1;?");
        try {
            x.house();
        } catch (IllegalArgumentException e) {
            x.seed(77);
        }
        x.off(1);
        Check.tape(x, 1, 2, 3, 4, 5);
        return x;
    }

    private static String state(AbsentRings x) {
        StringBuilder s = new StringBuilder();
        for (int what = 0; what <= 12; what++) {
            s.append(x.count(what)).append(' ');
        }
        for (int p = 0; p < x.count(0); p++) {
            s.append("\nperson ").append(p).append(':');
            for (int what = 0; what <= 9; what++) {
                s.append(' ').append(x.person(p, what));
            }
            for (int dish = 0; dish < x.count(1); dish++) {
                s.append(' ').append(x.eats(p, 3, dish));
            }
        }
        s.append("\neaten");
        for (int dish = 0; dish < x.count(1); dish++) {
            for (int place = 0; place < 8; place++) {
                s.append(' ').append(x.eaten(dish, place));
            }
        }
        s.append("\nfar");
        for (int place = 0; place < 8; place++) {
            s.append(' ').append(x.far(0, place));
        }
        s.append("\nlog");
        for (int ago = 0; ago < x.count(11); ago++) {
            for (int what = 0; what <= 3; what++) {
                s.append(' ').append(x.log(ago, what));
            }
        }
        int seed = x.seed(0);
        x.seed(seed);
        return s.append("\nseed ").append(seed).append(" fault ").append(x.fault()).toString();
    }

    /** How many bytes of the first few the tape has; as many are cut off as it has not. */
    private static int tapeOf(AbsentRings x) {
        for (int n = 2 * TAPE; n >= 0; n--) {
            if (x.end(n)) {
                return n;
            }
        }
        return -1;
    }

    private static void alike(String what, AbsentRings x, AbsentRings due) {
        String one = state(x);
        String other = state(due);
        if (!one.equals(other)) {
            System.out.println(what + ": " + one + "\nbut due is " + other);
        }
        CHECK.isTrue(what + " leaves all as it was", one.equals(other));
    }

    private static void alikeInAll(String what, AbsentRings x, AbsentRings due) {
        CHECK.same(what + " leaves the tape", tapeOf(x), tapeOf(due));
        alike(what, x, due);
        for (int i = 0; i < 3; i++) {
            CHECK.same(what + ": undo", x.undo() ? 1 : 0, due.undo() ? 1 : 0);
        }
        alike(what + ", undone,", x, due);
        CHECK.same(what + ": back", x.back() ? 1 : 0, due.back() ? 1 : 0);
        alike(what + ", gone back,", x, due);
    }

    private static void refused(String what, Class<?> exception, Ask ask) {
        AbsentRings x = made();
        CHECK.refuses(what, exception, () -> ask.of(x));
        alikeInAll(what, x, made());
    }

    private static void refusedActs() {
        refused("leave: no such person", INDEX, x -> x.leave(3));
        refused("leave: away", STATE, x -> x.leave(0));
        refused("leave: dead", STATE, x -> x.leave(1));
        refused("leave: no iron", STATE, x -> x.leave(2));
        refused("home: no such person", INDEX, x -> x.home(-1));
        refused("home: at 1", STATE, x -> x.home(0));
        refused("home: dead", STATE, x -> x.home(1));
        refused("home: at home", STATE, x -> x.home(2));
        refused("serve", INDEX, x -> x.serve(2));
        refused("off: no such person", INDEX, x -> x.off(3));
        refused("off: dead", STATE, x -> x.off(1));
        refused("off: at home", STATE, x -> x.off(2));
        refused("rise: no such person", INDEX, x -> x.rise(3));
        refused("rise: away", STATE, x -> x.rise(0));
        refused("rise: at home", STATE, x -> x.rise(2));
        refused("vote: no such person", INDEX, x -> x.vote(3, 1));
        refused("vote: 21", ARGUMENT, x -> x.vote(0, 21));
        refused("promise: no such person", INDEX, x -> x.promise(0, 3));
        refused("promise: both are one", ARGUMENT, x -> x.promise(0, 0));
        refused("nights: 0", ARGUMENT, x -> x.nights(0));
        refused("nights: 61", ARGUMENT, x -> x.nights(61));
    }

    private static void refusedQuestions() {
        refused("person", INDEX, x -> x.person(3, 0));
        refused("person: what", ELEMENT, x -> x.person(0, 10));
        refused("eaten", INDEX, x -> x.eaten(0, 8));
        refused("eats", INDEX, x -> x.eats(0, 0, 2));
        refused("road", INDEX, x -> x.road(0, 8));
        refused("road: both are one", ARGUMENT, x -> x.road(1, 1));
        refused("far", INDEX, x -> x.far(8, 0));
        refused("meet", INDEX, x -> x.meet(0, 3));
        refused("meet: both are one", ARGUMENT, x -> x.meet(0, 0));
        refused("like", INDEX, x -> x.like(2));
        refused("swings", INDEX, x -> x.swings(3));
        refused("pivots", INDEX, x -> x.pivots(3));
        refused("split", INDEX, x -> x.split(3));
        refused("circle", INDEX, x -> x.circle(3));
        refused("heir", INDEX, x -> x.heir(3));
        refused("odds", INDEX, x -> x.odds(0, 0, 8));
        refused("odds: nights", ARGUMENT, x -> x.odds(0, 5, 0));
        refused("odds: dead", STATE, x -> x.odds(1, 4, 0));
        refused("rests", INDEX, x -> x.rests(3));
        refused("rests: at home", STATE, x -> x.rests(2));
        refused("starves", INDEX, x -> x.starves(3));
        refused("fills", INDEX, x -> x.fills(2));
        refused("ahead", INDEX, x -> x.ahead(3, 0));
        refused("ahead: nights", ARGUMENT, x -> x.ahead(0, 61));
        refused("trial", ARGUMENT, x -> x.trial(61, true));
        refused("span", ARGUMENT, x -> x.span(-1, true));
        refused("led", INDEX, x -> x.led(3, true));
        refused("log", ELEMENT, x -> x.log(0, 4));
    }

    /** A text changes fault(), too, as that tells of it: the other object reads another text wrong at the same byte. */
    private static void refusedText(String text, int wrong) {
        AbsentRings x = made();
        AbsentRings due = made();
        Check.text(x, text);
        Check.text(due, " ".repeat(wrong) + "?");
        CHECK.noArgument("house " + text, () -> x.house());
        CHECK.noArgument("a plain wrong text", () -> due.house());
        alikeInAll("house " + text, x, due);
    }

    private static void refusedLaw(String text, int wrong) {
        AbsentRings x = made();
        AbsentRings due = made();
        Check.text(x, text);
        Check.text(due, " ".repeat(wrong) + "?");
        CHECK.noArgument("law " + text, () -> x.law());
        CHECK.noArgument("a plain wrong text", () -> due.house());
        alikeInAll("law " + text, x, due);
    }

    private static void refusedTexts() {
        refusedText("person weight 1;dish 99999999;road 6 7;promise 2 0;x", 51);
        refusedText("quota 9;walk 9;limit 9;iron 99;night 9;promise 0 0", 49);
        refusedText("person weight 1 at 0 vote 9;person weight 1 at 0;", 49);
        refusedLaw("less 9;more 3 if three;off;", 27);
        refusedLaw("off if (((((((", 13);
        AbsentRings x = made();
        AbsentRings due = made();
        for (int i = x.count(2); i < 12; i++) {
            Check.text(x, "").house();
            Check.text(due, "").house();
        }
        x.vote(0, 9);
        due.vote(0, 9);
        Check.text(x, "person weight 1;iron 5;night 3");
        CHECK.refuses("a thirteenth", UnsupportedOperationException.class, () -> x.house());
        alikeInAll("a thirteenth", x, due);
    }

    private static void refusedByTape(String what, Class<?> exception, Ask ask, int... bytes) {
        AbsentRings x = made();
        Check.tape(x, bytes);
        CHECK.refuses(what, exception, () -> ask.of(x));
        AbsentRings due = made();
        due.end(0);
        alikeInAll(what, x, due);
    }

    private static void refusedTapes() {
        refusedByTape("where", ARGUMENT, x -> x.where(false), 0, 1, 2);
        refusedByTape("paths", ARGUMENT, x -> x.where(true), 2, 1);
        refusedByTape("likely", ARGUMENT, x -> x.likely(), 0, 10);
        refusedByTape("next", ARGUMENT, x -> x.next(), 0, 1, 0);
        refusedByTape("lying: no such person", INDEX, x -> x.lying(3), 0, 1);
        refusedByTape("lying: the tape", ARGUMENT, x -> x.lying(0), 0, 100);
        refusedByTape("lying: at home", STATE, x -> x.lying(2), 0, 1);
        refusedByTape("lying: dead", STATE, x -> x.lying(1), 0, 1);
        refusedByTape("brides: no such person", INDEX, x -> x.brides(3), 0, 0, 0, 0, 0, 0, 0, 0, 0);
        refusedByTape("brides: the tape", ARGUMENT, x -> x.brides(-1), 0, 0, 0, 0, 0, 0, 0, 0);
        refusedByTape("rather", ARGUMENT, x -> x.rather(), 0, 10, 0, 0, 0, 0, 0, 0, 0);
    }

    private static void changesNothing(String what, Ask ask) {
        AbsentRings x = made();
        ask.of(x);
        alikeInAll(what, x, made());
    }

    private static void questions() {
        changesNothing("fault", x -> x.fault());
        changesNothing("meet", x -> x.meet(0, 1));
        changesNothing("apart and like", x -> x.like(x.apart() > 0 ? 0 : 1));
        changesNothing("wins and blocks", x -> x.wins(x.blocks(3) ? 1 : 2));
        changesNothing("needed, side, minimal", x -> x.wins(x.needed() + x.side() + x.minimal()));
        changesNothing("dummies, leaves", x -> x.wins(x.dummies() + x.leaves()));
        changesNothing("swings, pivots, split", x -> x.wins(x.swings(0) + x.pivots(0) + x.split(0)));
        changesNothing("circle, pairs, jilts, heir", x -> x.wins(x.circle(0) ? x.pairs() + x.jilts() : x.heir(0)));
        changesNothing("chairs, empty, lasts, heaviest", x -> x.wins(x.chairs() + x.empty() + x.lasts() + x.heaviest()));
        changesNothing("odds", x -> x.odds(0, 4, 1));
        changesNothing("rests", x -> x.rests(0));
        changesNothing("coldest, alike, fills", x -> x.wins(x.coldest() + x.alike() + x.fills(0)));
        changesNothing("starves", x -> x.starves(0));
        changesNothing("ahead", x -> x.ahead(0, 60));
        changesNothing("trial", x -> x.trial(60, true));
        changesNothing("span", x -> x.span(60, false));
        changesNothing("led, log", x -> x.wins(x.led(0, true) + x.log(0, 0)));
        changesNothing("end beyond the tape", x -> x.end(TAPE + 1));
        changesNothing("the seed told as it is", x -> x.seed(77));
    }

    private static void asksByTape(String what, Ask ask, int... bytes) {
        AbsentRings x = made();
        Check.tape(x, bytes);
        ask.of(x);
        AbsentRings due = made();
        due.end(0);
        alikeInAll(what, x, due);
    }

    private static void questionsByTheTape() {
        asksByTape("where", x -> x.where(false), 0, 1, 1, 0);
        asksByTape("paths", x -> x.where(true), 0, 1);
        asksByTape("likely", x -> x.likely());
        asksByTape("next", x -> x.next(), 1, 0);
        asksByTape("lying", x -> x.lying(0), 9, 9);
        asksByTape("brides", x -> x.brides(0), 0, 9, 9, 9, 0, 9, 9, 9, 0);
        asksByTape("rather", x -> x.rather(), 0, 9, 9, 9, 0, 9, 9, 9, 0);
    }

    /** Where two exceptions could be thrown: that one is due that the document's face tells first. */
    private static void theFirstTold() {
        refused("person and what", INDEX, x -> x.person(3, 10));
        refused("road: no such place, both are one", INDEX, x -> x.road(8, 8));
        refused("meet: no such person, both are one", INDEX, x -> x.meet(3, 3));
        refused("vote: no such person, no such vote", INDEX, x -> x.vote(3, 21));
        refused("promise: no such person, both are one", INDEX, x -> x.promise(3, 3));
        refused("ahead: no such person, no such nights", INDEX, x -> x.ahead(3, 61));
        refused("odds: no such place, no such nights, dead", INDEX, x -> x.odds(1, 5, 8));
        refused("odds: no such nights, dead", ARGUMENT, x -> x.odds(1, 5, 0));
        refusedByTape("lying: no such person, tape", INDEX, x -> x.lying(3), 100);
        refusedByTape("lying: tape, at home", ARGUMENT, x -> x.lying(2), 100);
        refusedByTape("brides: no such person, tape", INDEX, x -> x.brides(-2), 100);
        AbsentRings full = made();
        for (int i = full.count(2); i < 12; i++) {
            Check.text(full, "").house();
        }
        CHECK.noArgument("a thirteenth, wrong", () -> Check.text(full, "x").house());
    }
}
