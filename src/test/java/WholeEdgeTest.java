import java.math.BigInteger;
import java.util.Arrays;

/** The boundary cases of what is told of all (promises 1 and 23 to 26, refusals); each method tests one sentence. */
public final class WholeEdgeTest {
    private static final int NONE = -1, UNKNOWN = -101, OUTSIDE = -102, STATE = -103, FULL = -104;
    private static final int BEING = 0, BEAST = 1;

    public static void main(String[] args) {
        aNewObjectHasNoBeings();
        eachObjectForItself();
        fiveHundredTwelveCalls();
        callsBehindThemEnd();
        refusalsLeaveTheImage();
        refusalsLeaveWhatWasTold();
        imageOfNone();
        imageIsTheLatest();
        imageKeepsTheNesting();
        imageKeepsWhatWasTold();
        imageKeepsHowManyDeeds();
        imageKeepsNothingElse();
        restoreNoneWasKept();
        restoreBeingsCameSince();
        restoreGoesOnAgain();
        countBeings();
        countOutside();
        countDeedsDone();
        countTold();
        countLetters();
        countDeedsThatMayBe();
        countOutsideWhat();
        digestOfNone();
        digestWraps();
        digestOfNegativeNumbers();
        digestOfAFullPage();
        digestTellsAll();
        Check.end();
    }

    // ---- promise 1

    private static void aNewObjectHasNoBeings() {
        Check.sentence("1 SwallowedInTurn(): No BEINGS");
        SwallowedInTurn x = new SwallowedInTurn();
        for (int what = 0; what <= 5; what++) {
            Check.due("count(" + what + ")", x.count(what), 0);
        }
        int[] answers = {x.fault(), x.tale(), x.blank(), x.about(0, 0), x.as(0, 0), x.may(0), x.may(30), x.may(40),
            x.deed(0), x.number(), x.soonest(0, 0), x.soonest(0, 1), x.soonest(1, 0), x.together(0, 1), x.deep(0),
            x.many(), x.nesting(0), x.nesting(1), x.told(0, 0), x.forget(), x.fits(), x.sure(0), x.ask(),
            x.days(1, 0, 0), x.days(1, 9, 1), x.days(1, 9, 2), x.restore()};
        int[] dues = {0, STATE, 0, UNKNOWN, UNKNOWN, UNKNOWN, UNKNOWN, UNKNOWN,
            UNKNOWN, 0, 0, NONE, OUTSIDE, UNKNOWN, UNKNOWN,
            1, 0, OUTSIDE, UNKNOWN, 0, 1, UNKNOWN, NONE,
            0, 0, 9, STATE};
        for (int i = 0; i < dues.length; i++) {
            Check.due("answer " + i + " of a new object", answers[i], dues[i]);
        }
        Check.due("image()", x.image(), 0);
    }

    private static void eachObjectForItself() {
        Check.sentence("1 SwallowedInTurn(): No BEINGS (whatever another object has)");
        SwallowedInTurn other = Check.chain(5);
        Check.write(other, "s01");
        other.told(0, 2);
        other.image();
        other.digest();
        SwallowedInTurn x = new SwallowedInTurn();
        for (int what = 0; what <= 5; what++) {
            Check.due("count(" + what + ")", x.count(what), 0);
        }
        Check.due("restore()", x.restore(), STATE);
        long before = other.digest();
        Check.due("being(0, 1, 0, 0)", x.being(BEING, 1, 0, 0), 0);
        x.letter('x');
        Check.due("digest() of the other one", other.digest(), before);
    }

    private static void fiveHundredTwelveCalls() {
        Check.sentence("An object is used for at most 512 calls");
        SwallowedInTurn x = Check.beasts(5);
        SwallowedInTurn likeIt = Check.beasts(5);
        // Five calls made the beings.
        for (int call = 6; call <= 509; call++) {
            Check.due("call " + call, x.deed(call % 2 == 0 ? 1 : 30), call - 5);
        }
        Check.due("call 510", x.many(), 1296);
        Check.due("call 511", x.deed(1), 505);
        for (int done = 1; done <= 505; done++) {
            likeIt.deed(done % 2 == 1 ? 1 : 30);
        }
        Check.due("call 512", x.digest(), likeIt.digest());
    }

    private static void callsBehindThemEnd() {
        Check.sentence("LANGUAGE 7: No call may ever throw or fail to end, for any arguments in any state");
        int[] values = {Integer.MIN_VALUE, -1, 0, 1, 4, 5, 30, 31, 40, 60, 115, Integer.MAX_VALUE};
        SwallowedInTurn[] all = {new SwallowedInTurn(), Check.chain(5)};
        for (SwallowedInTurn x : all) {
            for (int a : values) {
                for (int b : values) {
                    callAll(x, a, b);
                }
            }
            Check.due("letters of a page with all that came", x.count(4) <= 40 ? 1 : 0, 1);
        }
    }

    private static void callAll(SwallowedInTurn x, int a, int b) {
        x.letter(a);
        x.fault();
        x.tale();
        x.about(a, b);
        x.as(a, b);
        x.may(a);
        x.deed(a);
        x.number();
        x.soonest(a, b);
        x.together(a, b);
        x.deep(a);
        x.many();
        x.nesting(a);
        x.told(a, b);
        x.fits();
        x.sure(a);
        x.ask();
        x.days(a, b, 0);
        x.days(60, a, b);
        x.image();
        x.restore();
        x.count(a);
        x.digest();
        if (a == b) {
            x.blank();
            x.forget();
            x.being(a, 1, 20, b);
        }
    }

    // ---- refusals

    private static void refusalsLeaveTheImage() {
        Check.sentence("Terms 3: Refusals .. change nothing (an IMAGE)");
        SwallowedInTurn x = Check.beasts(5);
        Check.does(x, 1);
        x.told(0, 30);
        Check.due("image()", x.image(), 6);
        x.forget();
        Check.does(x, 30);
        refuseAll(x);
        Check.due("restore()", x.restore(), 6);
        Check.due("count(2)", x.count(2), 1);
        Check.due("count(3)", x.count(3), 1);
        SwallowedInTurn none = Check.beasts(5);
        refuseAll(none);
        Check.due("restore() when none was kept", none.restore(), STATE);
    }

    /** A refusal of each call that knows one, with five beings. */
    private static void refuseAll(SwallowedInTurn x) {
        int[] answers = {x.letter(0), x.tale(), x.being(5, 1, 1, 1), x.being(1, 1, 1, 1), x.about(5, 0), x.about(0, 8),
            x.as(5, 0), x.as(0, 5), x.may(25), x.deed(45), x.deed(6), x.soonest(32, 0), x.soonest(0, 2),
            x.together(2, 2), x.deep(5), x.nesting(-1), x.told(5, 0), x.told(0, 32), x.sure(5), x.days(0, 0, 0),
            x.count(6)};
        int[] dues = {OUTSIDE, STATE, OUTSIDE, FULL, UNKNOWN, OUTSIDE,
            UNKNOWN, OUTSIDE, UNKNOWN, UNKNOWN, STATE, OUTSIDE, OUTSIDE,
            UNKNOWN, UNKNOWN, OUTSIDE, UNKNOWN, OUTSIDE, UNKNOWN, OUTSIDE,
            OUTSIDE};
        for (int i = 0; i < dues.length; i++) {
            Check.due("refusal " + i, answers[i], dues[i]);
        }
    }

    private static void refusalsLeaveWhatWasTold() {
        Check.sentence("Terms 3: Refusals .. change nothing (what was TOLD)");
        SwallowedInTurn x = Check.beasts(3);
        for (int i = 0; i < 4; i++) {
            x.told(0, 0b110);
        }
        Check.due("fits()", x.fits(), 12);
        Check.due("told(1, 5), a fifth", x.told(1, 0b010), FULL);
        Check.due("told(0, 8)", x.told(0, 8), OUTSIDE);
        Check.due("told(3, 0)", x.told(3, 0), UNKNOWN);
        Check.due("restore()", x.restore(), STATE);
        Check.due("fits() then", x.fits(), 12);
        Check.due("forget()", x.forget(), 4);
    }

    // ---- promises 23 and 24

    private static void imageOfNone() {
        Check.sentence("23 image: An IMAGE is kept (of no BEINGS): NUMBER");
        SwallowedInTurn x = new SwallowedInTurn();
        Check.due("image()", x.image(), 0);
        Check.due("restore()", x.restore(), 0);
        x.being(BEAST, 1, 20, 31);
        Check.refused(x, "restore() when the first came", x::restore, STATE);
    }

    private static void imageIsTheLatest() {
        Check.sentence("23 image: (one; the latest)");
        SwallowedInTurn x = Check.beasts(3);
        Check.due("image()", x.image(), 0);
        Check.does(x, 1);
        Check.due("image(), a second", x.image(), 6);
        Check.does(x, 2);
        Check.due("image(), a third", x.image(), 42);
        Check.does(x, 40);
        Check.due("restore()", x.restore(), 42);
        Check.due("restore() again", x.restore(), 42);
        Check.does(x, 40);
        Check.due("image() of less", x.image(), 0);
        Check.due("restore()", x.restore(), 0);
    }

    private static void imageKeepsTheNesting() {
        Check.sentence("Terms 3: An IMAGE keeps the NESTING (the greatest NUMBER)");
        SwallowedInTurn x = Check.chain(5);
        int number = x.number();
        long before = x.digest();
        Check.due("image()", x.image(), number);
        Check.due("digest() after image()", x.digest(), before);
        Check.does(x, 30, 31, 32, 33);
        Check.due("restore()", x.restore(), number);
        Check.due("digest() after restore()", x.digest(), before);
        for (int being = 0; being < 5; being++) {
            Check.due("about(" + being + ", 4)", x.about(being, 4), being - 1);
        }
    }

    private static void imageKeepsWhatWasTold() {
        Check.sentence("Terms 3: An IMAGE keeps .. what was TOLD (nothing, and 4)");
        SwallowedInTurn x = Check.beasts(3);
        x.image();
        for (int i = 0; i < 4; i++) {
            x.told(i % 3, 1 << i % 3);
        }
        Check.due("restore() of nothing told", x.restore(), 0);
        Check.due("count(3)", x.count(3), 0);
        Check.due("fits()", x.fits(), 16);
        for (int i = 0; i < 4; i++) {
            x.told(0, 0b110);
        }
        x.image();
        x.forget();
        x.told(1, 0b010);
        Check.due("restore() of four", x.restore(), 0);
        Check.due("count(3)", x.count(3), 4);
        Check.due("fits()", x.fits(), 12);
        Check.due("told(0, 6), a fifth", x.told(0, 0b110), FULL);
        Check.due("forget()", x.forget(), 4);
    }

    private static void imageKeepsHowManyDeeds() {
        Check.sentence("Terms 3: An IMAGE keeps .. how many DEEDS were done (none, and many)");
        SwallowedInTurn x = Check.beasts(2);
        x.image();
        for (int i = 0; i < 100; i++) {
            Check.does(x, 1, 30);
        }
        Check.due("restore()", x.restore(), 0);
        Check.due("count(2)", x.count(2), 0);
        Check.due("deed(1)", x.deed(1), 1);
        x.image();
        Check.due("deed(40)", x.deed(40), 2);
        x.restore();
        Check.due("count(2)", x.count(2), 1);
        Check.due("deed(30)", x.deed(30), 2);
    }

    private static void imageKeepsNothingElse() {
        Check.sentence("Terms 3: An IMAGE keeps (nothing else: THE PAGE stays)");
        SwallowedInTurn x = Check.beasts(2);
        Check.write(x, "s01");
        x.image();
        Check.write(x, ",c0");
        x.restore();
        Check.due("count(4)", x.count(4), 6);
        Check.due("tale()", x.tale(), 2);
        x.image();
        x.blank();
        x.restore();
        Check.due("count(4) of an emptied page", x.count(4), 0);
    }

    private static void restoreNoneWasKept() {
        Check.sentence("24 restore: STATE: none was kept");
        for (int total = 0; total <= 5; total++) {
            SwallowedInTurn x = Check.chain(total);
            Check.refused(x, "restore() of " + total, x::restore, STATE);
        }
    }

    private static void restoreBeingsCameSince() {
        Check.sentence("24 restore: STATE: .. or BEINGS came since");
        SwallowedInTurn x = new SwallowedInTurn();
        for (int total = 0; total < 5; total++) {
            x.image();
            Check.due("restore() of " + total, x.restore(), x.number());
            Check.due("being(9, 1, 20, 31)", x.being(9, 1, 20, 31), OUTSIDE);
            Check.due("restore() of " + total + " when one was refused", x.restore(), x.number());
            x.being(BEAST, 1, 20, 31);
            Check.refused(x, "restore() when being " + total + " came", x::restore, STATE);
            Check.refused(x, "restore() once more", x::restore, STATE);
        }
        Check.due("image() of five", x.image(), 0);
        Check.due("being(1, 1, 20, 31), a sixth", x.being(BEAST, 1, 20, 31), FULL);
        Check.due("restore() when a sixth was refused", x.restore(), 0);
        SwallowedInTurn several = Check.beasts(1);
        several.image();
        several.being(BEAST, 1, 20, 31);
        several.being(BEAST, 1, 20, 31);
        Check.refused(several, "restore() when two came", several::restore, STATE);
    }

    private static void restoreGoesOnAgain() {
        Check.sentence("24 restore: It goes on from the IMAGE: NUMBER");
        SwallowedInTurn x = Check.beasts(3);
        Check.does(x, 1);
        x.image();
        for (int i = 0; i < 3; i++) {
            Check.does(x, 2);
            Check.due("restore(), time " + i, x.restore(), 6);
            Check.due("may(30)", x.may(30), 1);
            Check.due("soonest(7, 0)", x.soonest(7, 0), 1);
            Check.due("count(2)", x.count(2), 1);
        }
    }

    // ---- promise 25

    private static void countBeings() {
        Check.sentence("25 count: 0 BEINGS");
        for (int total = 0; total <= 5; total++) {
            Check.due("count(0) of " + total, Check.chain(total).count(0), total);
        }
    }

    private static void countOutside() {
        Check.sentence("25 count: 1 OUTSIDE");
        for (int total = 0; total <= 5; total++) {
            Check.due("count(1) of " + total + " outside", Check.beasts(total).count(1), total);
            Check.due("count(1) of a chain of " + total, Check.chain(total).count(1), Math.min(total, 1));
        }
        SwallowedInTurn x = Check.beasts(5);
        Check.does(x, 1, 13);
        Check.due("count(1) when two are in others", x.count(1), 3);
    }

    private static void countDeedsDone() {
        Check.sentence("25 count: 2 DEEDS that were done");
        SwallowedInTurn x = Check.beasts(2);
        Check.due("count(2), none", x.count(2), 0);
        for (int done = 1; done <= 100; done++) {
            x.deed(done % 2 == 1 ? 1 : 40);
            Check.due("count(2)", x.count(2), done);
        }
        x.deed(6);
        x.deed(2);
        Check.write(x, "s01,c0");
        x.tale();
        x.days(60, 1, 0);
        Check.due("count(2) when none was done", x.count(2), 100);
    }

    private static void countTold() {
        Check.sentence("25 count: 3 what is TOLD");
        SwallowedInTurn x = Check.beasts(2);
        for (int told = 0; told <= 6; told++) {
            Check.due("count(3) when " + told + " were told", x.count(3), Math.min(told, 4));
            x.told(0, 2);
        }
    }

    private static void countLetters() {
        Check.sentence("25 count: 4 letters of THE PAGE");
        SwallowedInTurn x = new SwallowedInTurn();
        for (int letters = 0; letters <= 42; letters++) {
            Check.due("count(4) when " + letters + " came", x.count(4), Math.min(letters, 40));
            x.letter(126);
        }
    }

    private static void countDeedsThatMayBe() {
        Check.sentence("25 count: 5 DEEDS that MAY be");
        for (int total = 0; total <= 5; total++) {
            Check.due("count(5) of " + total + " outside", Check.beasts(total).count(5), total * (total - 1));
        }
        // One swallow by the outermost with nobody, and for each that has one in it a cough and a yawn.
        for (int total = 1; total <= 5; total++) {
            Check.due("count(5) of a chain of " + total, Check.chain(total).count(5), 2 * (total - 1));
        }
        Check.due("count(5) of beings", Check.beings(BEING, 1, 9, 31, BEING, 1, 9, 31).count(5), 0);
    }

    private static void countOutsideWhat() {
        Check.sentence("25 count: OUTSIDE (0 to 5)");
        SwallowedInTurn x = Check.beasts(1);
        for (int what : Check.around(-1, 6)) {
            Check.refused(x, "count(" + what + ")", () -> x.count(what), OUTSIDE);
        }
    }

    // ---- promise 26

    /** The digest of these numbers, without any wrap-around up to the end. */
    private static long digestOf(long... numbers) {
        BigInteger h = BigInteger.valueOf(709);
        for (long it : numbers) {
            h = h.multiply(BigInteger.valueOf(31)).add(BigInteger.valueOf(it));
        }
        return h.longValue();
    }

    private static void digestOfNone() {
        Check.sentence("26 digest: h is 709, then .. in order (no BEINGS)");
        // NUMBER, MANY, FITS, ASK, how few and the first for nobody, no letters, six counts.
        Check.due("digest()", new SwallowedInTurn().digest(), digestOf(0, 1, 1, -1, 0, -1, 0, 0, 0, 0, 0, 0));
    }

    private static void digestWraps() {
        Check.sentence("26 digest: 31 times h, and it (as longs, wrapping)");
        SwallowedInTurn x = Check.beings(BEAST, 9, 20, 31);
        Check.due("digest() of one", x.digest(),
                digestOf(1, 9, 20, 31, -1, 0, 0, 0, 0, 0, 1, 1, 0, 0, -1, 1, 1, 0, 0, 0, 0));
        int below = 0;
        int above = 0;
        SwallowedInTurn y = new SwallowedInTurn();
        for (int letters = 1; letters <= 20; letters++) {
            y.letter(126);
            long[] numbers = new long[6 + letters + 6];
            Arrays.fill(numbers, 6, 6 + letters, 126);
            System.arraycopy(new long[] {0, 1, 1, -1, 0, -1}, 0, numbers, 0, 6);
            numbers[6 + letters + 4] = letters;
            long due = digestOf(numbers);
            Check.due("digest() with " + letters + " letters", y.digest(), due);
            below += due < 0 ? 1 : 0;
            above += due > 0 ? 1 : 0;
        }
        Check.due("some of these are below 0, some above", below > 0 && above > 0 ? 1 : 0, 1);
    }

    private static void digestOfNegativeNumbers() {
        Check.sentence("26 digest: for each of these numbers (NONE, as it is)");
        SwallowedInTurn x = Check.beings(BEING, 1, 0, 0, BEING, 2, 3, 4);
        x.told(0, 1);
        // None fits: ASK is NONE; both are outside: NONE, and the first deed is NONE.
        Check.due("digest()", x.digest(), digestOf(0, 1, 0, 0, -1, 0, 0, 2, 0, 0, 2, 3, 4, -1, 0, 0, 1, 0,
                0, 1, 0, -1, 0, -1, 2, 2, 0, 1, 0, 0));
    }

    private static void digestOfAFullPage() {
        Check.sentence("26 digest: letters of THE PAGE, each by its code (40)");
        SwallowedInTurn x = new SwallowedInTurn();
        long[] numbers = new long[6 + 40 + 6];
        long[] ahead = {0, 1, 1, -1, 0, -1};
        System.arraycopy(ahead, 0, numbers, 0, 6);
        for (int i = 0; i < 40; i++) {
            numbers[6 + i] = i == 0 ? 1 : 126 - i;
            x.letter(i == 0 ? 1 : 126 - i);
        }
        numbers[6 + 40 + 4] = 40;
        Check.due("digest()", x.digest(), digestOf(numbers));
        x.letter(1);
        Check.due("digest() when one was refused", x.digest(), digestOf(numbers));
        x.blank();
        Check.due("digest() of an emptied page", x.digest(), digestOf(0, 1, 1, -1, 0, -1, 0, 0, 0, 0, 0, 0));
    }

    private static void digestTellsAll() {
        Check.sentence("26 digest: of each BEING what about() tells for 0 to 7, DEEP (5 BEINGS)");
        SwallowedInTurn x = Check.chain(5);
        Check.write(x, "c0");
        x.told(0, 2);
        long[] numbers = new long[5 * 9 + 6 + 2 + 6];
        for (int being = 0; being < 5; being++) {
            long[] told = {1, 1, 20, 31, being - 1, being < 4 ? 1 : 0, being,
                (being > 0 ? 1 << being - 1 : 0) + (being < 4 ? 1 << being + 1 : 0), 4};
            System.arraycopy(told, 0, numbers, 9 * being, 9);
        }
        long[] rest = {6 + 2 * 36 + 3 * 216 + 4 * 1296, 1296, x.fits(), x.ask(), 4, 30, 'c', '0', 5, 1, 4, 1, 2, 8};
        System.arraycopy(rest, 0, numbers, 45, rest.length);
        Check.due("digest()", x.digest(), digestOf(numbers));
    }
}
