/** The boundary cases of what was heard ("3 One HEARS", promises 17 to 21); each method tests one sentence. */
public final class HeardEdgeTest {
    private static final int NONE = -1, UNKNOWN = -101, OUTSIDE = -102, FULL = -104;
    private static final int UNSURE = -2;
    private static final int BEING = 0, BEAST = 1;

    public static void main(String[] args) {
        hearsWithoutAWall();
        hearsOneRightInTheOther();
        hearsOneRightInOneThatIsThere();
        hearsNotThroughTwoWalls();
        hearsNobodyElse();
        toldFourAtMost();
        toldHowMuchIsKept();
        toldUnknown();
        toldOutside();
        toldOfItself();
        toldUnknownAheadOfOutside();
        toldOutsideAheadOfFull();
        toldStaysWhenOneComes();
        forgetNothing();
        forgetFour();
        fitsWhenNothingIsTold();
        fitsAllThatIsTold();
        fitsNone();
        fitsOfNoBeings();
        sureRightInWhich();
        sureNoneOutside();
        sureNot();
        sureNoSuchNestings();
        sureUnknown();
        askNoBeings();
        askNoSuchNestings();
        askOneAlone();
        askOfLikeOnesTheLeast();
        askTheGreatestNumber();
        askNotAgain();
        Check.end();
    }

    // ---- 3 One HEARS another one

    /** Both ways: it is told alike by both. */
    private static void hear(String how, SwallowedInTurn x, int a, int b, int due) {
        Check.due(a + " hears " + b + ", " + how, x.about(a, 7) >> b & 1, due);
        Check.due(b + " hears " + a + ", " + how, x.about(b, 7) >> a & 1, due);
    }

    private static void hearsWithoutAWall() {
        Check.sentence("Terms 3: both are right IN the same one (or OUTSIDE)");
        SwallowedInTurn x = Check.beasts(5);
        hear("both outside", x, 0, 4, 1);
        Check.does(x, 2, 3, 4);
        hear("both right in 0", x, 2, 3, 1);
        hear("both right in 0", x, 3, 4, 1);
        hear("both outside", x, 0, 1, 1);
        Check.does(x, 5);
        hear("both right in 0, that is in 1", x, 2, 4, 1);
    }

    private static void hearsOneRightInTheOther() {
        Check.sentence("Terms 3: or one is right IN the other one");
        SwallowedInTurn x = Check.chain(5);
        for (int being = 1; being < 5; being++) {
            hear("right in it", x, being - 1, being, 1);
        }
    }

    private static void hearsOneRightInOneThatIsThere() {
        Check.sentence("Terms 3: or right IN one that is where the other one is");
        SwallowedInTurn x = Check.beasts(5);
        Check.does(x, 1);
        hear("in one that is outside, as the other", x, 1, 4, 1);
        Check.does(x, 17, 15);
        // 1 in 0, 2 in 3, 0 in 3.
        hear("in one that is right in 3, as the other", x, 1, 2, 1);
        hear("in one that is outside, as the other", x, 0, 4, 1);
    }

    private static void hearsNotThroughTwoWalls() {
        Check.sentence("Terms 3: with no more than one wall between them");
        SwallowedInTurn x = Check.chain(5);
        hear("two walls", x, 0, 2, 0);
        hear("two walls", x, 2, 4, 0);
        hear("three walls", x, 0, 3, 0);
        hear("four walls", x, 0, 4, 0);
        SwallowedInTurn y = Check.beasts(5);
        Check.does(y, 1, 13);
        hear("each in another one", y, 1, 3, 0);
        hear("in one outside", y, 1, 4, 1);
        Check.does(y, 2);
        // 1 and 2 in 0, 3 in 2.
        hear("in one in one outside", y, 3, 4, 0);
        hear("in one in it", y, 3, 0, 0);
        hear("in one that is there", y, 3, 1, 1);
    }

    private static void hearsNobodyElse() {
        Check.sentence("Terms 3: One HEARS another one");
        SwallowedInTurn x = Check.beasts(5);
        SwallowedInTurn chain = Check.chain(5);
        for (int being = 0; being < 5; being++) {
            Check.due(being + " hears itself, outside", x.about(being, 7) >> being & 1, 0);
            Check.due(being + " hears itself, in a chain", chain.about(being, 7) >> being & 1, 0);
        }
        Check.due("about(0, 7), alone", Check.beasts(1).about(0, 7), 0);
    }

    // ---- promise 17

    private static void toldFourAtMost() {
        Check.sentence("Terms 3: 4 at most of it is kept: who, whom, as bits; 17 told: FULL");
        SwallowedInTurn one = Check.beasts(5);
        SwallowedInTurn all = Check.beasts(5);
        for (int i = 1; i <= 4; i++) {
            Check.due("told(2, 27), time " + i, one.told(2, 27), i);
            Check.due("told(" + i + ", 1)", all.told(i, 1), i);
        }
        Check.refused(one, "told(2, 27), a fifth", () -> one.told(2, 27), FULL);
        Check.refused(one, "told(0, 0), a fifth by another", () -> one.told(0, 0), FULL);
        Check.refused(all, "told(0, 30), a fifth by the last one", () -> all.told(0, 30), FULL);
        Check.due("count(3)", one.count(3), 4);
        SwallowedInTurn once = Check.beasts(5);
        once.told(2, 27);
        Check.due("fits() is by the four", one.fits(), once.fits());
        one.forget();
        Check.due("told(2, 27) when all is forgotten", one.told(2, 27), 1);
    }

    private static void toldHowMuchIsKept() {
        Check.sentence("17 told: how much is kept");
        SwallowedInTurn x = Check.beasts(2);
        Check.due("count(3), new", x.count(3), 0);
        Check.due("told(0, 2)", x.told(0, 2), 1);
        Check.due("told(0, 2), the same again", x.told(0, 2), 2);
        Check.due("told(0, 0), against it", x.told(0, 0), 3);
        Check.due("told(1, 3), that never fits", x.told(1, 3), 4);
        Check.due("count(3)", x.count(3), 4);
    }

    private static void toldUnknown() {
        Check.sentence("17 told: UNKNOWN");
        for (int total = 0; total <= 5; total++) {
            SwallowedInTurn x = Check.beasts(total);
            for (int being : Check.around(-1, total)) {
                Check.refused(x, "told(" + being + ", 0) of " + total, () -> x.told(being, 0), UNKNOWN);
            }
            if (total > 0) {
                Check.due("told by the last of " + total, x.told(total - 1, 0), 1);
            }
        }
    }

    private static void toldOutside() {
        Check.sentence("17 told: OUTSIDE: set (bits of BEINGS that there are)");
        for (int total = 1; total <= 5; total++) {
            SwallowedInTurn x = Check.beasts(total);
            for (int set : Check.around(-1, 1 << total)) {
                Check.refused(x, "told(0, " + set + ") of " + total, () -> x.told(0, set), OUTSIDE);
            }
            Check.due("told(0, 0) of " + total, x.told(0, 0), 1);
            Check.due("told(0, all) of " + total, x.told(0, (1 << total) - 1), 2);
        }
        SwallowedInTurn x = Check.beasts(3);
        Check.refused(x, "told(0, 10), one of two is there", () -> x.told(0, 10), OUTSIDE);
    }

    private static void toldOfItself() {
        Check.sentence("17 told: its own bit, too, which never FITS");
        for (int total = 1; total <= 5; total++) {
            for (int being = 0; being < total; being++) {
                SwallowedInTurn x = Check.beasts(total);
                Check.due("told(" + being + ", its own) of " + total, x.told(being, 1 << being), 1);
                Check.due("fits()", x.fits(), 0);
                x.forget();
                Check.due("told(" + being + ", all) of " + total, x.told(being, (1 << total) - 1), 1);
                Check.due("fits()", x.fits(), 0);
            }
        }
    }

    private static void toldUnknownAheadOfOutside() {
        Check.sentence("17 told: UNKNOWN; OUTSIDE; FULL: of several the first (UNKNOWN)");
        SwallowedInTurn x = Check.beasts(2);
        Check.refused(x, "told(2, 4)", () -> x.told(2, 4), UNKNOWN);
        Check.refused(x, "told(-1, -1)", () -> x.told(-1, -1), UNKNOWN);
        for (int i = 0; i < 4; i++) {
            x.told(0, 2);
        }
        Check.refused(x, "told(2, 4), full", () -> x.told(2, 4), UNKNOWN);
        Check.refused(x, "told(2, 0), full", () -> x.told(2, 0), UNKNOWN);
        Check.refused(x, "told(MIN, MAX), full", () -> x.told(Integer.MIN_VALUE, Integer.MAX_VALUE), UNKNOWN);
    }

    private static void toldOutsideAheadOfFull() {
        Check.sentence("17 told: UNKNOWN; OUTSIDE; FULL: of several the first (OUTSIDE)");
        SwallowedInTurn x = Check.beasts(2);
        for (int i = 0; i < 4; i++) {
            x.told(0, 2);
        }
        Check.refused(x, "told(1, 4), full", () -> x.told(1, 4), OUTSIDE);
        Check.refused(x, "told(1, -1), full", () -> x.told(1, -1), OUTSIDE);
        Check.refused(x, "told(1, 1), full", () -> x.told(1, 1), FULL);
    }

    private static void toldStaysWhenOneComes() {
        Check.sentence("17 told: set (bits of BEINGS that there are), when more come");
        SwallowedInTurn x = Check.beasts(2);
        Check.refused(x, "told(0, 6) of two", () -> x.told(0, 6), OUTSIDE);
        Check.due("told(0, 2) of two", x.told(0, 2), 1);
        Check.due("fits() of two", x.fits(), 3);
        x.being(BEAST, 1, 20, 31);
        Check.due("count(3) of three", x.count(3), 1);
        // 0 hears 1, and not the one that came: 2 in 1 in 0, 0 in 1 in 2.
        Check.due("fits() of three", x.fits(), 2);
        Check.due("told(0, 6) of three", x.told(0, 6), 2);
        Check.due("fits() of both", x.fits(), 0);
    }

    // ---- promise 18

    private static void forgetNothing() {
        Check.sentence("18 forget: how much it was (nothing)");
        SwallowedInTurn x = new SwallowedInTurn();
        Check.due("forget() of none", x.forget(), 0);
        x.being(BEING, 1, 0, 0);
        x.told(0, 1);
        Check.due("forget() of one", x.forget(), 1);
        Check.due("forget() again", x.forget(), 0);
        Check.due("fits() then", x.fits(), 1);
    }

    private static void forgetFour() {
        Check.sentence("18 forget: All that was TOLD is gone: how much it was (4)");
        SwallowedInTurn x = Check.beasts(3);
        for (int being = 0; being < 4; being++) {
            x.told(being % 3, 1 << being % 3);
        }
        Check.due("fits() of what never fits", x.fits(), 0);
        Check.due("forget()", x.forget(), 4);
        Check.due("count(3)", x.count(3), 0);
        Check.due("fits()", x.fits(), 16);
        x.told(0, 0b110);
        Check.due("fits() of what is told then, of it alone", x.fits(), 12);
    }

    // ---- promise 19

    private static void fitsWhenNothingIsTold() {
        Check.sentence("19 fits: in how many of the NESTINGS .. all that is TOLD is so (nothing)");
        int[] many = {1, 1, 3, 16, 125, 1296};
        for (int total = 0; total <= 5; total++) {
            Check.due("fits() of " + total, Check.beasts(total).fits(), many[total]);
            Check.due("fits() of a chain of " + total, Check.chain(total).fits(), many[total]);
        }
    }

    private static void fitsAllThatIsTold() {
        Check.sentence("19 fits: .. all that is TOLD is so (four)");
        SwallowedInTurn x = Check.beasts(3);
        // Who hears one other alone is at an end of a chain; the one between hears both.
        Check.due("told(0, 2)", x.told(0, 0b010), 1);
        Check.due("fits(): 2 in 1 in 0, 0 in 1 in 2", x.fits(), 2);
        Check.due("told(1, 5)", x.told(1, 0b101), 2);
        Check.due("fits()", x.fits(), 2);
        Check.due("told(2, 2)", x.told(2, 0b010), 3);
        Check.due("fits()", x.fits(), 2);
        Check.due("told(2, 3)", x.told(2, 0b011), 4);
        Check.due("fits() when the fourth is not so", x.fits(), 0);
    }

    private static void fitsNone() {
        Check.sentence("19 fits: .. (in none)");
        SwallowedInTurn x = Check.beasts(3);
        x.told(0, 0);
        Check.due("fits() when one of three hears nobody", x.fits(), 0);
        x.told(1, 0b101);
        Check.due("fits() when the last is so, the first not", x.fits(), 0);
        Check.does(x, 1);
        Check.due("fits() after a deed", x.fits(), 0);
    }

    private static void fitsOfNoBeings() {
        Check.sentence("19 fits: (no BEINGS)");
        SwallowedInTurn x = new SwallowedInTurn();
        Check.due("fits()", x.fits(), 1);
        Check.due("told(0, 0)", x.told(0, 0), UNKNOWN);
        Check.due("fits() then", x.fits(), 1);
    }

    // ---- promise 20

    /** Of these three, all nestings are: 1 and 2 in or out of 0, 2 in 1. */
    private static SwallowedInTurn three() {
        return Check.beings(BEAST, 1, 9, 2, BEAST, 1, 9, 1, BEING, 1, 0, 0);
    }

    private static void sureRightInWhich() {
        Check.sentence("20 sure: right IN which it is in all of these");
        SwallowedInTurn x = three();
        x.told(0, 0b010);
        // 0 hears 1 alone: 2 is in 1, and 1 in 0.
        Check.due("fits()", x.fits(), 1);
        Check.due("sure(1), in being 0", x.sure(1), 0);
        Check.due("sure(2), in being 1", x.sure(2), 1);
        SwallowedInTurn five = Check.beings(BEING, 1, 0, 0, BEING, 1, 0, 0, BEING, 1, 0, 0, BEAST, 1, 9, 1,
                BEAST, 1, 9, 2);
        five.told(4, 0b01000);
        // 4 hears but 3: that is in 4, and 0, 1, 2 are in 3.
        Check.due("fits()", five.fits(), 1);
        Check.due("sure(3), in being 4", five.sure(3), 4);
        Check.due("sure(0), in being 3", five.sure(0), 3);
    }

    private static void sureNoneOutside() {
        Check.sentence("20 sure: SURE of one: (NONE: OUTSIDE)");
        SwallowedInTurn x = three();
        Check.due("sure(0), whom nobody likes", x.sure(0), NONE);
        Check.due("fits()", x.fits() > 1 ? 1 : 0, 1);
        Check.due("sure(0), alone", Check.beasts(1).sure(0), NONE);
    }

    private static void sureNot() {
        Check.sentence("20 sure: -2: it is not");
        SwallowedInTurn x = three();
        Check.due("sure(1), outside or in 0", x.sure(1), UNSURE);
        SwallowedInTurn two = Check.beasts(3);
        two.told(0, 0b010);
        // 2 in 1 in 0, or 0 in 1 in 2: 1 is never outside, but in 0 or in 2.
        Check.due("fits()", two.fits(), 2);
        Check.due("sure(1), in 0 or in 2", two.sure(1), UNSURE);
        Check.due("sure(0), outside or in 1", two.sure(0), UNSURE);
        Check.due("sure(2), in 1 or outside", two.sure(2), UNSURE);
    }

    private static void sureNoSuchNestings() {
        Check.sentence("20 sure: -2: .. or there are no such NESTINGS");
        SwallowedInTurn x = three();
        x.told(0, 0b001);
        Check.due("fits()", x.fits(), 0);
        for (int being = 0; being < 3; being++) {
            Check.due("sure(" + being + ")", x.sure(being), UNSURE);
        }
    }

    private static void sureUnknown() {
        Check.sentence("20 sure: UNKNOWN");
        for (int total = 0; total <= 5; total++) {
            SwallowedInTurn x = Check.beasts(total);
            if (total > 0) {
                Check.due("sure of the last of " + total, x.sure(total - 1), total == 1 ? NONE : UNSURE);
                x.told(0, 1);
            }
            // It is UNKNOWN where nothing fits, too.
            for (int being : Check.around(-1, total)) {
                Check.refused(x, "sure(" + being + ") of " + total, () -> x.sure(being), UNKNOWN);
            }
        }
        SwallowedInTurn x = Check.beasts(2);
        Check.due("sure(2) where all fits", x.sure(2), UNKNOWN);
        Check.due("sure(-1) where all fits", x.sure(-1), UNKNOWN);
        Check.due("sure(-2) where all fits", x.sure(-2), UNKNOWN);
    }

    // ---- promise 21

    private static void askNoBeings() {
        Check.sentence("21 ask: NONE: there are no BEINGS");
        Check.due("ask()", new SwallowedInTurn().ask(), NONE);
    }

    private static void askNoSuchNestings() {
        Check.sentence("21 ask: NONE: .. or no such NESTINGS");
        for (int total = 1; total <= 5; total++) {
            SwallowedInTurn x = Check.beasts(total);
            x.told(0, 1);
            Check.due("ask() of " + total + " when none fits", x.ask(), NONE);
            x.forget();
            Check.due("ask() of " + total + " when all fit", x.ask(), 0);
        }
    }

    private static void askOneAlone() {
        Check.sentence("21 ask: whom to ask next (one NESTING is left)");
        Check.due("ask() of one", Check.beasts(1).ask(), 0);
        Check.due("ask() where no deed may be", Check.beings(BEING, 1, 0, 0, BEING, 1, 0, 0).ask(), 0);
        SwallowedInTurn x = three();
        x.told(0, 0b010);
        Check.due("ask() when one is left", x.ask(), 0);
    }

    private static void askOfLikeOnesTheLeast() {
        Check.sentence("21 ask: of like ones the least");
        for (int total = 2; total <= 5; total++) {
            SwallowedInTurn x = Check.beasts(total);
            Check.due("ask() of " + total + " like ones", x.ask(), 0);
        }
        for (int total = 3; total <= 5; total++) {
            SwallowedInTurn x = Check.beasts(total);
            x.told(0, (1 << total) - 2);
            // 0 would say it again; all others are alike.
            Check.due("ask() of " + total + " when 0 hears all", x.ask(), 1);
        }
        // 1 is outside, in 2 or in 3, that can be in each other: of nine, 0 misses 1 in two.
        // In these 1 says two other things, but 7 at most could be left by either.
        SwallowedInTurn y = Check.beings(BEING, 1, 0, 0, BEAST, 1, 0, 0, BEAST, 1, 9, 2, BEAST, 1, 9, 2);
        Check.due("many()", y.many(), 9);
        Check.due("ask() when 1 has more to say, but not more apart", y.ask(), 0);
    }

    private static void askTheGreatestNumber() {
        Check.sentence("21 ask: most of these NESTINGS that could be left, by what it might say, are fewest");
        // 1 and 2 are in or out of 0; 3 is out, in 1, or coughed by it into 0: ten nestings.
        // Most that could be left are 8 by 0 and 2, that miss 3 alone, 10 by 1, that hears all, and 7 by 3.
        SwallowedInTurn x = Check.beings(BEAST, 1, 9, 2, BEAST, 1, 9, 1, BEAST, 1, 9, 0, BEING, 1, 0, 0);
        Check.due("many()", x.many(), 10);
        Check.due("ask()", x.ask(), 3);
        x.told(3, 0b0111);
        Check.due("fits() when 3 hears all", x.fits(), 7);
        Check.due("ask() when all hear all", x.ask(), 0);
    }

    private static void askNotAgain() {
        Check.sentence("21 ask: whom to ask next");
        SwallowedInTurn x = Check.beasts(3);
        x.told(0, 0b110);
        Check.due("ask() when 0 was heard", x.ask(), 1);
        x.told(1, 0b101);
        Check.due("fits() when 0 and 1 hear all", x.fits(), 10);
        // The third hears all, too: its answer leaves as many as that of the others.
        Check.due("ask() when 0 and 1 were heard", x.ask(), 0);
        Check.due("number() and count(2) after ask", x.number() + x.count(2), 0);
    }
}
