/** Promises 2 to 5: the page, and deeds as a text. */
public final class TextTest {
    public static void main(String[] args) {
        lettersComeUpToForty();
        blankEmptiesThePage();
        faultIsTheFirstLetterThatCannotBe();
        tenDeedsAreTheMost();
        taleStopsAtTheFirstThatMayNotBe();
        taleChangesNothing();
        taleOfNoDeedsIsRefused();
        Check.end();
    }

    private static void lettersComeUpToForty() {
        SwallowedInTurn x = new SwallowedInTurn();
        Check.due("letter(0)", x.letter(0), SwallowedInTurn.OUTSIDE);
        Check.due("letter(127)", x.letter(127), SwallowedInTurn.OUTSIDE);
        Check.due("letter(-1)", x.letter(-1), SwallowedInTurn.OUTSIDE);
        Check.due("letter(MIN)", x.letter(Integer.MIN_VALUE), SwallowedInTurn.OUTSIDE);
        Check.due("letter(MAX)", x.letter(Integer.MAX_VALUE), SwallowedInTurn.OUTSIDE);
        Check.due("letters of a page where all were refused", x.count(4), 0);
        Check.due("letter(1)", x.letter(1), 1);
        Check.due("letter(126)", x.letter(126), 2);
        for (int i = 3; i <= 40; i++) {
            Check.due("letter " + i, x.letter('s'), i);
        }
        Check.due("letter 41", x.letter('s'), SwallowedInTurn.FULL);
        Check.due("letter 41, outside", x.letter(0), SwallowedInTurn.OUTSIDE);
        Check.due("letters of a full page", x.count(4), 40);
    }

    private static void blankEmptiesThePage() {
        SwallowedInTurn x = Check.beasts(2);
        Check.due("blank of an empty page", x.blank(), 0);
        Check.write(x, "s01,c0");
        Check.due("fault of a page read before it is blank", x.fault(), 6);
        Check.due("blank of six", x.blank(), 6);
        Check.due("letters after blank", x.count(4), 0);
        Check.due("fault after blank", x.fault(), 0);
        Check.due("tale after blank", x.tale(), SwallowedInTurn.STATE);
        Check.due("blank once more", x.blank(), 0);
        Check.due("letter after blank", x.letter('c'), 1);
        for (int i = 0; i < 50; i++) {
            x.letter('s');
        }
        Check.due("blank of a full page", x.blank(), 40);
        Check.due("letter on a page that was full", x.letter('c'), 1);
    }

    private static void faultIsTheFirstLetterThatCannotBe() {
        faultIs("", 0);
        faultIs("s", 1);
        faultIs("s0", 2);
        faultIs("s04", 3);
        faultIs("s40,c4,y4", 9);
        faultIs("s04,", 4);
        faultIs("x", 0);
        faultIs("0", 0);
        faultIs(",", 0);
        faultIs("S01", 0);
        faultIs("s5", 1);
        faultIs("s05", 2);
        faultIs("s/", 1);
        faultIs("s0,", 2);
        faultIs("s00s", 3);
        faultIs("s000", 3);
        faultIs("c5", 1);
        faultIs("c,", 1);
        faultIs("c00", 2);
        faultIs("y5", 1);
        faultIs("y0.", 2);
        faultIs("c0,,", 3);
        faultIs("c0,x", 3);
        faultIs("c0,s0c", 5);
        faultIs("c0 ,s00", 2);
        faultIs("xs00,c0", 0);
    }

    private static void faultIs(String text, int place) {
        SwallowedInTurn x = new SwallowedInTurn();
        Check.write(x, text);
        Check.due("fault of " + text, x.fault(), place);
        Check.due("fault of " + text + " again", x.fault(), place);
        Check.due("letters of " + text, x.count(4), text.length());
    }

    private static void tenDeedsAreTheMost() {
        faultIs("s00,s01,s02,s03,s04,s10,s11,s12,s13,s14", 39);
        faultIs("s00,s01,s02,s03,s04,s10,s11,s12,s13,s14,", 39);
        faultIs("c0,c0,c0,c0,c0,c0,c0,c0,c0,c0", 29);
        faultIs("c0,c0,c0,c0,c0,c0,c0,c0,c0,c0,", 29);
        faultIs("c0,c0,c0,c0,c0,c0,c0,c0,c0,c0,c0", 29);
        faultIs("y0,y1,y2,y3,y4,c0,c1,c2,c3,", 27);
        SwallowedInTurn x = Check.beasts(2);
        Check.write(x, "s01,c0,s01,c0,s01,c0,s01,c0,s01,c0");
        Check.due("tale of ten deeds", x.tale(), 10);
        Check.write(x, ",");
        Check.due("tale of ten deeds and a comma", x.tale(), SwallowedInTurn.STATE);
        x.blank();
        Check.write(x, "c0");
        Check.due("tale of one deed that may not be", x.tale(), 0);
    }

    private static void taleStopsAtTheFirstThatMayNotBe() {
        taleIs(3, "s01", 1);
        taleIs(3, "s00", 0);
        taleIs(3, "s01,s02", 2);
        taleIs(3, "s01,s21", 1);
        taleIs(3, "s10,s02", 1);
        taleIs(3, "s12,s01,c0,y1", 4);
        taleIs(3, "s12,s01,y1,y0", 4);
        taleIs(3, "s12,s01,y1,y1,y0", 3);
        taleIs(3, "s01,c0,c0", 2);
        taleIs(3, "s01,c1", 1);
        taleIs(3, "s01,s02,y0,c0", 3);
        taleIs(3, "s01,s02,c0,c0,c0", 4);
        taleIs(3, "s03", 0);
        taleIs(3, "s30", 0);
        taleIs(3, "s01,c3", 1);
        taleIs(3, "s01,y4", 1);
        taleIs(0, "c0", 0);
        taleIs(5, "s34,s23,s12,s01,c0,c1,c2,c3", 8);
        taleIs(5, "s34,y3", 2);
    }

    private static void taleIs(int beings, String text, int told) {
        SwallowedInTurn x = Check.beasts(beings);
        Check.write(x, text);
        Check.due("tale of " + text + " with " + beings, x.tale(), told);
        Check.due("tale of " + text + " again", x.tale(), told);
    }

    private static void taleChangesNothing() {
        SwallowedInTurn x = Check.beasts(3);
        x.deed(1);
        Check.write(x, "s02,c0");
        Check.due("tale from where they are", x.tale(), 2);
        Check.due("number after tale", x.number(), 6);
        Check.due("deeds after tale", x.count(2), 1);
        Check.due("letters after tale", x.count(4), 6);
        x.deed(30);
        Check.due("tale when they are out", x.tale(), 2);
        x.deed(5);
        Check.due("tale when 0 is in 1", x.tale(), 0);
    }

    private static void taleOfNoDeedsIsRefused() {
        String[] none = {"", "s", "s0", "c", "y", "s01,", "s01,c", "x", "s01x", "s0,1", "c0,,c0", "s015", "s01,s05"};
        for (String text : none) {
            SwallowedInTurn x = Check.beasts(3);
            Check.write(x, text);
            Check.due("tale of " + text, x.tale(), SwallowedInTurn.STATE);
        }
    }
}
