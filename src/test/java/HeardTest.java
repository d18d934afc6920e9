/** Promises 17 to 21: what was told of who hears whom, and what follows. */
public final class HeardTest {
    private static final int UNSURE = -2;

    public static void main(String[] args) {
        toldKeepsFour();
        toldIsRefused();
        fitsCountsNestings();
        sureWhereOneIs();
        askTheOneThatTellsMost();
        eachLooksFromNow();
        whatWasToldStays();
        Check.end();
    }

    private static void toldKeepsFour() {
        SwallowedInTurn x = Check.beasts(3);
        Check.due("told 1", x.told(0, 6), 1);
        Check.due("told 2, the same again", x.told(0, 6), 2);
        Check.due("told 3, nobody", x.told(1, 0), 3);
        Check.due("told 4, all and itself", x.told(2, 7), 4);
        Check.due("told 5", x.told(0, 6), SwallowedInTurn.FULL);
        Check.due("told 5 by another", x.told(1, 5), SwallowedInTurn.FULL);
        Check.due("what is told", x.count(3), 4);
        Check.due("forget", x.forget(), 4);
        Check.due("what is told then", x.count(3), 0);
        Check.due("forget again", x.forget(), 0);
        Check.due("told after forget", x.told(2, 1), 1);
    }

    private static void toldIsRefused() {
        SwallowedInTurn x = Check.beasts(3);
        Check.due("told(3, 0)", x.told(3, 0), SwallowedInTurn.UNKNOWN);
        Check.due("told(-1, 99)", x.told(-1, 99), SwallowedInTurn.UNKNOWN);
        Check.due("told(0, 8)", x.told(0, 8), SwallowedInTurn.OUTSIDE);
        Check.due("told(0, -1)", x.told(0, -1), SwallowedInTurn.OUTSIDE);
        Check.due("told(0, MIN)", x.told(0, Integer.MIN_VALUE), SwallowedInTurn.OUTSIDE);
        Check.due("told(0, MAX)", x.told(0, Integer.MAX_VALUE), SwallowedInTurn.OUTSIDE);
        Check.due("nothing was told", x.count(3), 0);
        for (int i = 0; i < 4; i++) {
            x.told(0, 6);
        }
        Check.due("told(3, 0), full", x.told(3, 0), SwallowedInTurn.UNKNOWN);
        Check.due("told(0, 8), full", x.told(0, 8), SwallowedInTurn.OUTSIDE);
        Check.due("told by one of none", new SwallowedInTurn().told(0, 0), SwallowedInTurn.UNKNOWN);
        Check.due("told(4, 31) of five", Check.beasts(5).told(4, 31), 1);
        Check.due("told(4, 32) of five", Check.beasts(5).told(4, 32), SwallowedInTurn.OUTSIDE);
    }

    private static void fitsCountsNestings() {
        SwallowedInTurn x = Check.beasts(3);
        Check.due("fits when nothing was told", x.fits(), 16);
        x.told(0, 0b010);
        // 0 hears 1 alone: only if 1 is right in one of 0 and 2, and the other one is right in 1.
        Check.due("fits when 0 hears 1 alone", x.fits(), 2);
        x.told(1, 0b101);
        Check.due("fits when 1 hears both, too", x.fits(), 2);
        x.told(2, 0b011);
        Check.due("fits when 2 hears 0, that does not hear it", x.fits(), 0);
        x.forget();
        Check.due("fits after forget", x.fits(), 16);
        x.told(0, 0b110);
        Check.due("fits when 0 hears both", x.fits(), 12);
        x.forget();
        x.told(1, 0b010);
        Check.due("fits when one hears itself", x.fits(), 0);
        x.forget();
        x.told(0, 0);
        Check.due("fits when one of three hears nobody", x.fits(), 0);
        SwallowedInTurn alone = Check.beasts(1);
        alone.told(0, 0);
        Check.due("fits when one alone hears nobody", alone.fits(), 1);
        Check.due("fits of none", new SwallowedInTurn().fits(), 1);
    }

    private static void sureWhereOneIs() {
        SwallowedInTurn x = Check.beasts(3);
        Check.due("sure when nothing was told", x.sure(0), UNSURE);
        x.told(0, 0b010);
        for (int being = 0; being < 3; being++) {
            Check.due("sure(" + being + ") when it may be the other way about", x.sure(being), UNSURE);
        }
        x.told(0, 0b100);
        Check.due("sure when none fits", x.sure(0), UNSURE);
        SwallowedInTurn y = new SwallowedInTurn();
        y.being(1, 1, 9, 31);
        y.being(1, 1, 9, 1);
        y.being(0, 1, 0, 0);
        Check.due("sure of who is always outside", y.sure(0), SwallowedInTurn.NONE);
        Check.due("sure of who may be in it", y.sure(1), UNSURE);
        y.told(0, 0b010);
        Check.due("fits when 2 is in 1 in 0", y.fits(), 1);
        Check.due("sure(0)", y.sure(0), SwallowedInTurn.NONE);
        Check.due("sure(1)", y.sure(1), 0);
        Check.due("sure(2)", y.sure(2), 1);
        Check.due("sure(3)", y.sure(3), SwallowedInTurn.UNKNOWN);
        Check.due("sure(-1)", y.sure(-1), SwallowedInTurn.UNKNOWN);
        Check.due("sure(MIN)", y.sure(Integer.MIN_VALUE), SwallowedInTurn.UNKNOWN);
        Check.due("sure of none", new SwallowedInTurn().sure(0), SwallowedInTurn.UNKNOWN);
    }

    private static void askTheOneThatTellsMost() {
        Check.due("ask nobody", new SwallowedInTurn().ask(), SwallowedInTurn.NONE);
        Check.due("ask one", Check.beasts(1).ask(), 0);
        Check.due("ask the least of like ones", Check.beasts(4).ask(), 0);
        SwallowedInTurn x = new SwallowedInTurn();
        x.being(0, 1, 0, 0);
        x.being(1, 1, 9, 1);
        x.being(1, 1, 9, 3);
        // 0 may be in 1 or in 2, and 1 in 2: all hear all, but when 0 is in 1 in 2.
        Check.due("nestings", x.many(), 6);
        Check.due("ask whose answer is 5 of 6 at most", x.ask(), 0);
        x.told(1, 0b101);
        Check.due("told what always is so", x.fits(), 6);
        x.told(0, 0b010);
        Check.due("ask when one is left", x.ask(), 0);
        x.told(2, 0b011);
        Check.due("ask when none is left", x.ask(), SwallowedInTurn.NONE);
        theLeastMayTellNothing();
    }

    private static void theLeastMayTellNothing() {
        SwallowedInTurn y = new SwallowedInTurn();
        y.being(1, 1, 9, 1);
        y.being(2, 1, 9, 1 << 1);
        y.being(0, 1, 0, 0);
        // 0 swallows 2, 1 swallows 0: 0 always hears both, 1 does not hear 2 in 0 in it, 2 not 1.
        Check.due("nestings of three in line", y.many(), 5);
        Check.due("ask when the least tells nothing", y.ask(), 1);
        Check.due("ask changes nothing", y.number() + y.count(2) + y.count(3), 0);
    }

    /** Each call looks for itself, whatever was asked ahead of it. */
    private static void eachLooksFromNow() {
        Check.due("sure as the first call", chainOfThree().sure(1), 0);
        Check.due("ask as the first call", chainOfThree().ask(), 0);
        Check.due("fits as the first call", chainOfThree().fits(), 1);
    }

    /** It is told that 0 hears 1 alone: so 2 is in 1, and 1 in 0. */
    private static SwallowedInTurn chainOfThree() {
        SwallowedInTurn x = new SwallowedInTurn();
        x.being(1, 1, 9, 2);
        x.being(1, 1, 9, 1);
        x.being(0, 1, 0, 0);
        x.told(0, 0b010);
        return x;
    }

    private static void whatWasToldStays() {
        SwallowedInTurn x = Check.beasts(3);
        x.told(0, 0b010);
        x.deed(1);
        Check.due("told after a deed", x.count(3), 1);
        Check.due("fits after a deed", x.fits(), 2);
        x.being(0, 1, 0, 0);
        Check.due("told after a being came", x.count(3), 1);
        Check.due("fits with one more that is not heard", x.fits() > 0 ? 1 : 0, 1);
        x.told(0, 0b1010);
        Check.due("fits when it is heard and not heard", x.fits(), 0);
    }
}
