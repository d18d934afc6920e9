import java.util.Arrays;
import java.util.LinkedHashMap;
import java.util.List;
import java.util.Map;
import java.util.function.Consumer;

/**
 * What each call changes, and that all else stays: "Nothing is promised beyond the answers and state changes
 * described above". Each call is made on a scene made anew; each method tests one sentence.
 */
public final class ChangesTest {
    private static final int NONE = -1;
    private static final int BEING = 0, BEAST = 1, FISH = 2, WOLF = 3;
    private static final String BEINGS = "BEINGS", NESTING = "NESTING", DEEDS = "DEEDS", TOLD = "TOLD",
        PAGE = "THE PAGE", IMAGE = "the IMAGE";

    public static void main(String[] args) {
        callsThatOnlyTell();
        callsThatOnlyTellOfANewObject();
        refusedCalls();
        letterAndBlank();
        aBeingComes();
        aDeedIsDone();
        toldAndForget();
        anImageIsKept();
        itGoesOnFromTheImage();
        whatIsToldStaysFromDeedToDeed();
        theDrawsHoldNothingBack();
        theTaleIsOfThePageAsItIs();
        anOldImageIsNoMore();
        Check.end();
    }

    /** An image is kept of other things than those that are so then. */
    private static SwallowedInTurn scene() {
        SwallowedInTurn x = Check.beings(BEAST, 3, 20, 31, WOLF, 2, 12, 31, FISH, 1, 9, 31, BEING, 1, 0, 0);
        Check.does(x, 11);
        x.told(2, 0b1011);
        x.image();
        x.forget();
        Check.does(x, 32, 13, 7, 1);
        x.told(0, 0b0010);
        x.told(1, 0b0101);
        Check.write(x, "c0,s01,y1,c2");
        return x;
    }

    private static String told(SwallowedInTurn x) {
        int[] sure = new int[x.count(0)];
        for (int being = 0; being < sure.length; being++) {
            sure[being] = x.sure(being);
        }
        return x.count(3) + " fit " + x.fits() + " sure " + Arrays.toString(sure) + " ask " + x.ask();
    }

    private static String beings(SwallowedInTurn x) {
        StringBuilder all = new StringBuilder();
        for (int being = 0; being < x.count(0); being++) {
            for (int what = 0; what <= 3; what++) {
                all.append(x.about(being, what)).append(' ');
            }
            all.append("; ");
        }
        return all.toString();
    }

    private static String nesting(SwallowedInTurn x) {
        StringBuilder all = new StringBuilder().append(x.number());
        for (int being = 0; being < x.count(0); being++) {
            for (int what = 4; what <= 7; what++) {
                all.append(' ').append(x.about(being, what));
            }
        }
        return all.append(" may ").append(x.count(5)).append(" outside ").append(x.count(1)).toString();
    }

    private static SwallowedInTurn sceneWith(Consumer<SwallowedInTurn> made) {
        SwallowedInTurn x = scene();
        made.accept(x);
        return x;
    }

    /** All that can be seen of a scene on which a call was made, by the document's words. */
    private static Map<String, String> seen(Consumer<SwallowedInTurn> made) {
        SwallowedInTurn x = sceneWith(made);
        Map<String, String> seen = new LinkedHashMap<>();
        seen.put(BEINGS, beings(x));
        seen.put(NESTING, nesting(x));
        seen.put(DEEDS, "" + x.count(2));
        seen.put(TOLD, told(x));
        seen.put(PAGE, x.count(4) + " fault " + x.fault());
        // Of another one, so that nothing but the call itself is ahead of restore().
        SwallowedInTurn gone = sceneWith(made);
        int restored = gone.restore();
        seen.put(IMAGE, restored < 0 ? "" + restored
                : restored + " is " + nesting(gone) + " deeds " + gone.count(2) + " told " + told(gone));
        return seen;
    }

    /** Makes a call on a scene, and asks that these change, and no others. */
    private static void changes(String call, Consumer<SwallowedInTurn> made, String... changed) {
        Map<String, String> before = seen(x -> { });
        Map<String, String> after = seen(made);
        List<String> due = Arrays.asList(changed);
        for (String what : before.keySet()) {
            boolean isOther = !before.get(what).equals(after.get(what));
            Check.due(call + " changes " + what + " (from " + before.get(what) + " to " + after.get(what) + ")",
                    isOther ? 1 : 0, due.contains(what) ? 1 : 0);
        }
    }

    // ---- nothing

    /** By its letters the page is told as well, but an image is not. */
    private static void changesNothing(String call, Consumer<SwallowedInTurn> made) {
        changes(call, made);
        Check.due("digest() after " + call, sceneWith(made).digest(), scene().digest());
    }

    private static void callsThatOnlyTell() {
        Check.sentence("Not promised: .. beyond the .. state changes described above (a call that only tells)");
        changesNothing("fault()", x -> x.fault());
        changesNothing("tale()", x -> x.tale());
        for (int what = 0; what <= 7; what++) {
            int told = what;
            changesNothing("about(1, " + what + ")", x -> x.about(1, told));
        }
        changesNothing("as(1, 3)", x -> x.as(1, WOLF));
        changesNothing("as(1, 4)", x -> x.as(1, 4));
        changesNothing("may(30)", x -> x.may(30));
        changesNothing("may(1)", x -> x.may(1));
        changesNothing("number()", x -> x.number());
        for (int set = 0; set <= 15; set++) {
            int told = set;
            changesNothing("soonest(" + set + ", 0)", x -> x.soonest(told, 0));
            changesNothing("soonest(" + set + ", 1)", x -> x.soonest(told, 1));
        }
        changesNothing("together(0, 3)", x -> x.together(0, 3));
        changesNothing("deep(3)", x -> x.deep(3));
        changesNothing("many()", x -> x.many());
        changesNothing("nesting(7)", x -> x.nesting(7));
        changesNothing("fits()", x -> x.fits());
        changesNothing("sure(2)", x -> x.sure(2));
        changesNothing("ask()", x -> x.ask());
        for (int what = 0; what <= 2; what++) {
            int told = what;
            changesNothing("days(60, 5, " + what + ")", x -> x.days(60, 5, told));
        }
        for (int what = 0; what <= 5; what++) {
            int told = what;
            changesNothing("count(" + what + ")", x -> x.count(told));
        }
        changesNothing("digest()", x -> x.digest());
    }

    private static void callsThatOnlyTellOfANewObject() {
        Check.sentence("1 SwallowedInTurn(): No BEINGS (a call that only tells leaves it new)");
        SwallowedInTurn x = new SwallowedInTurn();
        long before = x.digest();
        int[] answers = {x.fault(), x.number(), x.soonest(0, 0), x.many(), x.nesting(0), x.fits(), x.ask(),
            x.days(60, 5, 0), x.count(0), x.blank(), x.forget()};
        Check.due("all answers are told", answers.length, 11);
        Check.due("digest()", x.digest(), before);
        Check.due("restore(), when none was kept", x.restore(), SwallowedInTurn.STATE);
        Check.due("being(1, 1, 20, 31), the first", x.being(BEAST, 1, 20, 31), 0);
    }

    private static void refusedCalls() {
        Check.sentence("Terms 3: Refusals .. change nothing (what is kept, too)");
        changesNothing("letter(0)", x -> x.letter(0));
        changesNothing("letter(127)", x -> x.letter(127));
        changesNothing("being(1, 0, 1, 1)", x -> x.being(BEAST, 0, 1, 1));
        changesNothing("about(4, 0)", x -> x.about(4, 0));
        changesNothing("about(0, 8)", x -> x.about(0, 8));
        changesNothing("as(4, 0)", x -> x.as(4, 0));
        changesNothing("as(0, 5)", x -> x.as(0, 5));
        changesNothing("may(34)", x -> x.may(34));
        changesNothing("deed(34)", x -> x.deed(34));
        changesNothing("deed(25)", x -> x.deed(25));
        changesNothing("deed(1), that may not be", x -> x.deed(1));
        changesNothing("deed(33), that may not be", x -> x.deed(33));
        changesNothing("deed(42), that may not be", x -> x.deed(42));
        changesNothing("soonest(16, 0)", x -> x.soonest(16, 0));
        changesNothing("together(1, 1)", x -> x.together(1, 1));
        changesNothing("deep(4)", x -> x.deep(4));
        changesNothing("nesting(-1)", x -> x.nesting(-1));
        changesNothing("told(4, 0)", x -> x.told(4, 0));
        changesNothing("told(0, 16)", x -> x.told(0, 16));
        changesNothing("sure(4)", x -> x.sure(4));
        changesNothing("days(61, 0, 0)", x -> x.days(61, 0, 0));
        changesNothing("count(6)", x -> x.count(6));
    }

    // ---- something

    private static void letterAndBlank() {
        Check.sentence("2 letter: comes behind THE PAGE; 3 blank: THE PAGE is empty (and nothing else)");
        changes("letter(',')", x -> Check.due("letter(',')", x.letter(','), 13), PAGE);
        changes("letter('x')", x -> Check.due("letter('x')", x.letter('x'), 13), PAGE);
        changes("blank()", x -> Check.due("blank()", x.blank(), 12), PAGE);
        SwallowedInTurn x = scene();
        Check.due("tale()", x.tale(), 4);
        Check.write(x, ",s01");
        // 1 is in 0 since the second deed: the fifth may not be.
        Check.due("tale() of the letters ahead and these", x.tale(), 4);
        Check.due("fault() of these", x.fault(), 16);
    }

    private static void aBeingComes() {
        Check.sentence("6 being: A BEING, OUTSIDE: its number (and nothing else)");
        SwallowedInTurn x = scene();
        SwallowedInTurn before = scene();
        Check.due("being(1, 9, 20, 31)", x.being(BEAST, 9, 20, 31), 4);
        for (int being = 0; being < 4; being++) {
            for (int what = 0; what <= 6; what++) {
                Check.due("about(" + being + ", " + what + ")", x.about(being, what), before.about(being, what));
            }
        }
        Check.due("number(), its figure is 0", x.number(), before.number());
        Check.due("count(1)", x.count(1), before.count(1) + 1);
        Check.due("count(2)", x.count(2), before.count(2));
        Check.due("count(3)", x.count(3), before.count(3));
        Check.due("count(4)", x.count(4), before.count(4));
        Check.due("fault()", x.fault(), before.fault());
        Check.due("tale()", x.tale(), before.tale());
    }

    private static void aDeedIsDone() {
        Check.sentence("10 deed: A DEED: how many there were (and nothing else)");
        SwallowedInTurn x = scene();
        int done = x.count(2);
        int told = x.count(3);
        changes("deed(30)", y -> Check.due("deed(30)", y.deed(30), done + 1), NESTING, DEEDS);
        changes("deed(31)", y -> Check.due("deed(31)", y.deed(31), done + 1), NESTING, DEEDS);
        changes("deeds 40 and 1, to the same nesting", y -> Check.does(y, 40, 1), DEEDS);
        Check.due("count(3)", told, 2);
    }

    private static void toldAndForget() {
        Check.sentence("17 told, 18 forget: what is TOLD (and nothing else)");
        changes("told(2, 10)", x -> Check.due("told(2, 10)", x.told(2, 0b1010), 3), TOLD);
        changes("forget()", x -> Check.due("forget()", x.forget(), 2), TOLD);
        changes("told(0, 2), the same again", x -> Check.due("told(0, 2)", x.told(0, 0b0010), 3), TOLD);
    }

    private static void anImageIsKept() {
        Check.sentence("23 image: An IMAGE is kept (and nothing else)");
        changes("image()", x -> Check.due("image()", x.image(), x.number()), IMAGE);
        SwallowedInTurn x = scene();
        x.image();
        Check.due("digest() after image()", x.digest(), scene().digest());
    }

    private static void itGoesOnFromTheImage() {
        Check.sentence("24 restore: It goes on from the IMAGE; 3: keeps the NESTING, what was TOLD, how many DEEDS were done");
        changes("restore()", x -> Check.due("restore()", x.restore(), 18), NESTING, DEEDS, TOLD);
        SwallowedInTurn x = scene();
        SwallowedInTurn likeIt = Check.beings(BEAST, 3, 20, 31, WOLF, 2, 12, 31, FISH, 1, 9, 31, BEING, 1, 0, 0);
        Check.does(likeIt, 11);
        likeIt.told(2, 0b1011);
        Check.write(likeIt, "c0,s01,y1,c2");
        x.restore();
        Check.due("digest() after restore()", x.digest(), likeIt.digest());
    }

    // ---- from call to call

    private static void whatIsToldStaysFromDeedToDeed() {
        Check.sentence("18 forget: All that was TOLD is gone (by this call alone)");
        SwallowedInTurn x = Check.beasts(4);
        x.told(0, 0b0010);
        int fits = x.fits();
        int[] deeds = {1, 13, 2, 40, 32, 5, 31};
        for (int deed : deeds) {
            Check.does(x, deed);
            Check.due("count(3) behind deed(" + deed + ")", x.count(3), 1);
            // From each nesting of beasts that like all the same nestings come.
            Check.due("fits() behind deed(" + deed + ")", x.fits(), fits);
        }
        x.days(60, 1, 0);
        Check.write(x, "s01");
        x.tale();
        x.blank();
        x.being(BEING, 1, 0, 0);
        x.image();
        x.restore();
        Check.due("count(3) behind all that", x.count(3), 1);
        Check.due("forget()", x.forget(), 1);
        Check.due("count(3) behind forget()", x.count(3), 0);
    }

    private static void theDrawsHoldNothingBack() {
        Check.sentence("Terms 3: DAYS by a SEED (of the call, not of one ahead)");
        SwallowedInTurn x = scene();
        SwallowedInTurn other = scene();
        int[] seeds = {9, 0, 9, Integer.MAX_VALUE, 9};
        for (int seed : seeds) {
            other.days(7, seed + 1 < 0 ? 3 : seed + 1, 0);
            for (int what = 0; what <= 2; what++) {
                Check.due("days(20, " + seed + ", " + what + ")", other.days(20, seed, what),
                        x.days(20, seed, what));
            }
        }
        Check.due("days(20, 9, 2) of a scene", scene().days(20, 9, 2), x.days(20, 9, 2));
    }

    private static void theTaleIsOfThePageAsItIs() {
        Check.sentence("5 tale: The DEEDS of THE PAGE (as it is now, not as it was)");
        SwallowedInTurn x = Check.beasts(3);
        String[] pages = {"s01,s12", "s01", "s01,c0,s12,c1,s20", "c2", "s01,s02,y0,s21"};
        int[] due = {1, 1, 5, 0, 4};
        for (int i = 0; i < pages.length; i++) {
            x.blank();
            Check.write(x, pages[i]);
            Check.due("fault() of " + pages[i], x.fault(), pages[i].length());
            Check.due("tale() of " + pages[i], x.tale(), due[i]);
            x.days(9, 4, 0);
            Check.due("tale() of " + pages[i] + " behind days()", x.tale(), due[i]);
        }
    }

    private static void anOldImageIsNoMore() {
        Check.sentence("24 restore: STATE: .. BEINGS came since (until another IMAGE is kept)");
        SwallowedInTurn x = scene();
        x.being(BEING, 1, 0, 0);
        Check.due("restore()", x.restore(), SwallowedInTurn.STATE);
        Check.due("count(2)", x.count(2), scene().count(2));
        int number = x.number();
        Check.due("image()", x.image(), number);
        Check.does(x, 30);
        Check.due("restore()", x.restore(), number);
        Check.due("about(4, 4), the one that came", x.about(4, 4), NONE);
        Check.due("count(0)", x.count(0), 5);
    }
}
