/** Promises 23 to 25: the image, and counts. */
public final class ImageTest {
    public static void main(String[] args) {
        restoreIsRefused();
        restoreBringsAllBack();
        theLatestImageIsKept();
        thePageIsNotKept();
        countsAreTold();
        Check.end();
    }

    private static void restoreIsRefused() {
        SwallowedInTurn x = new SwallowedInTurn();
        Check.due("restore when none was kept", x.restore(), SwallowedInTurn.STATE);
        Check.due("image of none", x.image(), 0);
        Check.due("restore of none", x.restore(), 0);
        x.being(1, 1, 9, 31);
        Check.due("restore when one came", x.restore(), SwallowedInTurn.STATE);
        x.being(1, 1, 9, 31);
        x.deed(1);
        x.told(0, 2);
        Check.due("restore when two came", x.restore(), SwallowedInTurn.STATE);
        Check.due("number after a refused restore", x.number(), 6);
        Check.due("told after a refused restore", x.count(3), 1);
        Check.due("deeds after a refused restore", x.count(2), 1);
        Check.due("image", x.image(), 6);
        x.being(9, 1, 9, 31);
        Check.due("restore when a being was refused", x.restore(), 6);
        x.being(1, 1, 9, 31);
        Check.due("restore when a third came", x.restore(), SwallowedInTurn.STATE);
        Check.due("image anew", x.image(), 6);
        Check.due("restore anew", x.restore(), 6);
        SwallowedInTurn two = Check.beasts(2);
        Check.due("restore of two when none was kept", two.restore(), SwallowedInTurn.STATE);
    }

    private static void restoreBringsAllBack() {
        SwallowedInTurn x = Check.beasts(3);
        x.deed(1);
        x.told(0, 6);
        x.told(1, 4);
        Check.due("image", x.image(), 6);
        Check.due("image changes nothing", x.count(2), 1);
        x.deed(30);
        x.deed(7);
        x.deed(1);
        x.forget();
        x.told(2, 1);
        x.told(2, 1);
        x.told(2, 1);
        Check.due("number before", x.number(), 6 + 2 * 36);
        Check.due("restore", x.restore(), 6);
        Check.due("number", x.number(), 6);
        Check.due("deeds", x.count(2), 1);
        Check.due("told", x.count(3), 2);
        // 0 hears both, 1 hears 2 alone: it does not hear 0, so nothing fits.
        Check.due("fits", x.fits(), 0);
        Check.due("deed goes on", x.deed(2), 2);
        Check.due("restore again", x.restore(), 6);
        Check.due("many()", x.many(), 16);
        x.forget();
        Check.due("restore brings back what was forgotten", x.restore(), 6);
        Check.due("told again", x.count(3), 2);
        x.told(0, 6);
        x.told(0, 6);
        Check.due("the image is not changed by what is told later", x.restore() + x.count(3), 6 + 2);
    }

    private static void theLatestImageIsKept() {
        SwallowedInTurn x = Check.beasts(3);
        x.told(0, 2);
        x.image();
        x.deed(7);
        x.forget();
        x.told(1, 5);
        Check.due("second image", x.image(), 2 * 36);
        x.deed(1);
        x.forget();
        Check.due("restore", x.restore(), 2 * 36);
        Check.due("deeds", x.count(2), 1);
        Check.due("told", x.count(3), 1);
        // 12 of the 16 nestings of three are so: 1 hears both but when it is at an end of a chain.
        Check.due("fits what was told last", x.fits(), 12);
        x.forget();
        x.told(0, 2);
        Check.due("fits what was told since", x.fits(), 2);
        x.restore();
        Check.due("fits what is told again", x.fits(), 12);
    }

    private static void thePageIsNotKept() {
        SwallowedInTurn x = Check.beasts(2);
        Check.write(x, "s01");
        x.image();
        x.blank();
        x.letter('c');
        x.restore();
        Check.due("letters after restore", x.count(4), 1);
    }

    private static void countsAreTold() {
        SwallowedInTurn x = Check.beasts(4);
        countsAre(x, 4, 4, 0, 0, 0, 12);
        x.deed(1);
        x.deed(2);
        x.told(0, 14);
        Check.write(x, "s0");
        // In 0 are 1 and 2, that swallow each other; 0 and 3 do, too; 0 coughs and yawns.
        countsAre(x, 4, 2, 2, 1, 2, 6);
        x.deed(7);
        countsAre(x, 4, 2, 3, 1, 2, 6);
        x.deed(40);
        countsAre(x, 4, 3, 4, 1, 2, 8);
        Check.due("count(6)", x.count(6), SwallowedInTurn.OUTSIDE);
        Check.due("count(-1)", x.count(-1), SwallowedInTurn.OUTSIDE);
        Check.due("count(MIN)", x.count(Integer.MIN_VALUE), SwallowedInTurn.OUTSIDE);
        Check.due("count(MAX)", x.count(Integer.MAX_VALUE), SwallowedInTurn.OUTSIDE);
    }

    private static void countsAre(SwallowedInTurn x, int... due) {
        for (int what = 0; what < due.length; what++) {
            Check.due("count(" + what + ") at " + x.number(), x.count(what), due[what]);
        }
    }
}
