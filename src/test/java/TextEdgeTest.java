/** The boundary cases of deeds as a text ("DEEDS of a text", promises 2 to 5); each method tests one sentence. */
public final class TextEdgeTest {
    private static final int OUTSIDE = -102, STATE = -103, FULL = -104;
    private static final int BEING = 0, BEAST = 1, WOLF = 3;
    private static final String TEN = "s01,c0,s01,c0,s01,c0,s01,c0,s01,c0";
    private static final String TEN_LONG = "s00,s01,s02,s03,s04,s10,s11,s12,s13,s14";

    public static void main(String[] args) {
        oneToTenDeeds();
        commasBetween();
        sAndTwoDigits();
        cAndADigit();
        yAndADigit();
        howManyThePageHas();
        codeFromOneToOneHundredTwentySix();
        fortyLettersAreTheMost();
        letterOutsideAheadOfFull();
        blankOfAnEmptyPage();
        blankOfAFullPage();
        blankForgetsAllLetters();
        faultAtTheFirstPlace();
        faultAtTheLastPlace();
        faultIsTheFirst();
        faultOfNone();
        faultOfAnEmptyPage();
        taleIsAsItWouldBe();
        taleStaysOnThePage();
        taleOfNothingDone();
        taleOfAll();
        taleEndsAheadOfTheFirst();
        taleNamesNothing();
        taleStateOfAnEmptyPage();
        taleStateOfHalfADeed();
        taleStateOfAFault();
        Check.end();
    }

    private static SwallowedInTurn page(int beings, String text) {
        SwallowedInTurn x = Check.beasts(beings);
        Check.write(x, text);
        Check.due("count(4) of " + text, x.count(4), text.length());
        return x;
    }

    private static void faultIs(String text, int place) {
        Check.due("fault() of " + text, page(2, text).fault(), place);
    }

    private static void taleIs(int beings, String text, int due) {
        Check.due("tale() of " + text + " with " + beings, page(beings, text).tale(), due);
    }

    private static void taleIsState(String text) {
        SwallowedInTurn x = page(5, text);
        Check.refused(x, "tale() of " + text, x::tale, STATE);
    }

    // ---- DEEDS of a text

    private static void oneToTenDeeds() {
        Check.sentence("Terms 1: DEEDS of a text: one to ten of them");
        taleIsState("");
        taleIs(2, "s01", 1);
        taleIs(2, TEN.substring(0, 31), 9);
        taleIs(2, TEN, 10);
        faultIs(TEN, 34);
        faultIs(TEN + ",", 34);
        faultIs(TEN + ",c", 34);
        faultIs(TEN + ",c0", 34);
        taleIsState(TEN + ",");
        taleIsState(TEN + ",c0");
        faultIs(TEN_LONG, 39);
        faultIs(TEN_LONG + ",", 39);
        faultIs("c0,c1,c2,c3,c4,y0,y1,y2,y3,y4,c0,c1,c2,c", 29);
    }

    private static void commasBetween() {
        Check.sentence("Terms 1: with \",\" between");
        faultIs("c0,c0", 5);
        faultIs("c0,", 3);
        faultIs(",", 0);
        faultIs(",c0", 0);
        faultIs("c0,,c0", 3);
        faultIs("c0c0", 2);
        faultIs("c0;c0", 2);
        onlyTheseGoOn("c0", ",");
        onlyTheseGoOn("y4", ",");
        onlyTheseGoOn("s44", ",");
        onlyTheseGoOn("", "scy");
        onlyTheseGoOn("s44,", "scy");
    }

    /** Of all letters, which have no fault behind a text. */
    private static void onlyTheseGoOn(String text, String letters) {
        SwallowedInTurn x = new SwallowedInTurn();
        for (int code = 1; code <= 126; code++) {
            if (code % 30 == 1) {
                x = new SwallowedInTurn();
            }
            x.blank();
            Check.write(x, text);
            x.letter(code);
            int due = text.length() + (letters.indexOf(code) >= 0 ? 1 : 0);
            Check.due("fault() of " + text + " and code " + code, x.fault(), due);
        }
    }

    private static void sAndTwoDigits() {
        Check.sentence("Terms 1: each \"s\" and two digits (0 to 4: a, b)");
        onlyTheseGoOn("s", "01234");
        onlyTheseGoOn("s0", "01234");
        onlyTheseGoOn("s4", "01234");
        for (int a = 0; a <= 4; a++) {
            for (int b = 0; b <= 4; b++) {
                faultIs("s" + a + b, 3);
                onlyThisSwallows(a, b);
            }
        }
    }

    /** Of five, a alone swallows, and b alone: of all that the text can tell this one deed is done. */
    private static void onlyThisSwallows(int a, int b) {
        SwallowedInTurn x = new SwallowedInTurn();
        for (int being = 0; being < 5; being++) {
            x.being(being == a ? BEAST : being == b ? WOLF : BEING, 1, 20, being == a ? 1 << WOLF : 0);
        }
        for (int told = 0; told < 25; told++) {
            x.blank();
            Check.write(x, "s" + told / 5 + told % 5);
            boolean isDone = told == 5 * a + b && a != b;
            Check.due("tale() of s" + told / 5 + told % 5 + " when " + a + " swallows " + b, x.tale(), isDone ? 1 : 0);
        }
    }

    private static void cAndADigit() {
        Check.sentence("Terms 1: or \"c\" .. and a digit (0 to 4: a)");
        onlyTheseGoOn("c", "01234");
        for (int a = 0; a <= 4; a++) {
            faultIs("c" + a, 2);
            int b = a == 0 ? 4 : 0;
            for (int other = 0; other <= 4; other++) {
                taleIs(5, "s" + a + b + ",c" + other, other == a ? 2 : 1);
            }
        }
        // A cough lets one out of two.
        taleIs(3, "s01,s02,c0,c0,c0", 4);
    }

    private static void yAndADigit() {
        Check.sentence("Terms 1: .. or \"y\" and a digit (0 to 4: a)");
        onlyTheseGoOn("y", "01234");
        for (int a = 0; a <= 4; a++) {
            faultIs("y" + a, 2);
            int b = a == 0 ? 4 : 0;
            for (int other = 0; other <= 4; other++) {
                taleIs(5, "s" + a + b + ",y" + other, other == a ? 2 : 1);
            }
        }
        // A yawn lets both out.
        taleIs(3, "s01,s02,y0,y0,c0", 3);
    }

    // ---- promise 2

    private static void howManyThePageHas() {
        Check.sentence("2 letter: how many THE PAGE has");
        SwallowedInTurn x = new SwallowedInTurn();
        for (int i = 1; i <= 40; i++) {
            Check.due("letter " + i, x.letter(i), i);
            Check.due("count(4)", x.count(4), i);
        }
    }

    private static void codeFromOneToOneHundredTwentySix() {
        Check.sentence("2 letter: OUTSIDE: code (1 to 126)");
        for (int code = 1; code <= 126; code++) {
            Check.due("letter(" + code + ")", new SwallowedInTurn().letter(code), 1);
        }
        for (int code : Check.around(0, 127)) {
            SwallowedInTurn x = page(0, "s0");
            Check.refused(x, "letter(" + code + ")", () -> x.letter(code), OUTSIDE);
        }
        SwallowedInTurn x = page(0, "s0");
        // A code's lowest eight bits alone would be a digit.
        Check.refused(x, "letter(256 + 48)", () -> x.letter(256 + 48), OUTSIDE);
        Check.refused(x, "letter(128)", () -> x.letter(128), OUTSIDE);
        Check.refused(x, "letter(-48)", () -> x.letter(-48), OUTSIDE);
    }

    private static void fortyLettersAreTheMost() {
        Check.sentence("2 letter: FULL: above 40");
        SwallowedInTurn x = page(2, TEN_LONG);
        Check.due("the 40th letter", x.letter('x'), 40);
        Check.refused(x, "the 41st letter", () -> x.letter('x'), FULL);
        Check.refused(x, "the 41st letter, code 1", () -> x.letter(1), FULL);
        Check.refused(x, "the 41st letter, code 126", () -> x.letter(126), FULL);
        Check.due("count(4)", x.count(4), 40);
        x.blank();
        Check.due("the first letter of an emptied page", x.letter('x'), 1);
    }

    private static void letterOutsideAheadOfFull() {
        Check.sentence("2 letter: OUTSIDE: code; FULL: of several the first");
        SwallowedInTurn x = page(0, TEN_LONG + ",");
        for (int code : Check.around(0, 127)) {
            Check.refused(x, "letter(" + code + ") on a full page", () -> x.letter(code), OUTSIDE);
        }
    }

    // ---- promise 3

    private static void blankOfAnEmptyPage() {
        Check.sentence("3 blank: how many letters it had (none)");
        SwallowedInTurn x = new SwallowedInTurn();
        Check.due("blank()", x.blank(), 0);
        x.letter('c');
        Check.due("blank() of one letter", x.blank(), 1);
        Check.due("blank() again", x.blank(), 0);
    }

    private static void blankOfAFullPage() {
        Check.sentence("3 blank: how many letters it had (40)");
        SwallowedInTurn x = page(0, TEN_LONG + ",");
        x.letter('x');
        Check.due("blank()", x.blank(), 40);
        Check.due("count(4)", x.count(4), 0);
    }

    private static void blankForgetsAllLetters() {
        Check.sentence("3 blank: THE PAGE is empty");
        SwallowedInTurn x = page(2, "s01,x");
        Check.due("fault() ahead", x.fault(), 4);
        x.blank();
        Check.due("fault()", x.fault(), 0);
        Check.due("tale()", x.tale(), STATE);
        Check.due("digest() as of one without a page", x.digest(), Check.beasts(2).digest());
        x.letter('c');
        Check.due("fault() of c", x.fault(), 1);
        Check.due("tale() of c", x.tale(), STATE);
        x.letter('0');
        Check.due("tale() of c0", x.tale(), 0);
    }

    // ---- promise 4

    private static void faultAtTheFirstPlace() {
        Check.sentence("4 fault: The place (from 0) of the first letter");
        faultIs("x", 0);
        faultIs("0", 0);
        faultIs("xs01", 0);
        Check.due("fault() of code 1", oneLetter(1).fault(), 0);
        Check.due("fault() of code 126", oneLetter(126).fault(), 0);
    }

    private static SwallowedInTurn oneLetter(int code) {
        SwallowedInTurn x = new SwallowedInTurn();
        x.letter(code);
        return x;
    }

    private static void faultAtTheLastPlace() {
        Check.sentence("4 fault: of the first letter .. that no DEEDS have there (the last)");
        faultIs(TEN_LONG + ",", 39);
        faultIs(TEN_LONG + "s", 39);
        faultIs(TEN_LONG.substring(0, 38) + "5", 38);
        faultIs("c0,cs", 4);
    }

    private static void faultIsTheFirst() {
        Check.sentence("4 fault: the first letter .. behind those ahead of it");
        faultIs("c5,x", 1);
        faultIs("s0x,c0", 2);
        faultIs("s5,c0", 1);
        faultIs("sc0", 1);
        faultIs("s01,s0,c0", 6);
        faultIs("c00", 2);
        faultIs("s012", 3);
    }

    private static void faultOfNone() {
        Check.sentence("4 fault: how many letters it has, if there is none");
        for (int length = 0; length <= 39; length++) {
            faultIs(TEN_LONG.substring(0, length), length);
        }
    }

    private static void faultOfAnEmptyPage() {
        Check.sentence("4 fault: how many letters it has (no letters)");
        Check.due("fault() of a new page", new SwallowedInTurn().fault(), 0);
        SwallowedInTurn x = oneLetter('x');
        x.blank();
        Check.due("fault() of an emptied page", x.fault(), 0);
    }

    // ---- promise 5

    private static void taleIsAsItWouldBe() {
        Check.sentence("5 tale: The DEEDS of THE PAGE, as they would be");
        SwallowedInTurn x = page(3, "s01,s12");
        long before = x.digest();
        Check.due("tale()", x.tale(), 1);
        Check.due("digest() after tale()", x.digest(), before);
        Check.does(x, 7);
        Check.due("tale() when 2 is in 1", x.tale(), 1);
        Check.does(x, 5);
        Check.due("tale() when 0 is in 1", x.tale(), 0);
        Check.due("count(2)", x.count(2), 2);
    }

    private static void taleStaysOnThePage() {
        Check.sentence("5 tale: (THE PAGE stays)");
        SwallowedInTurn x = page(2, TEN);
        Check.due("tale()", x.tale(), 10);
        Check.due("tale() again", x.tale(), 10);
        Check.due("count(4)", x.count(4), 34);
        Check.due("number()", x.number(), 0);
        Check.due("blank()", x.blank(), 34);
    }

    private static void taleOfNothingDone() {
        Check.sentence("5 tale: how many are done (none)");
        taleIs(2, "c0", 0);
        taleIs(2, "y1", 0);
        taleIs(2, "s00", 0);
        taleIs(2, "c0,s01,c0", 0);
    }

    private static void taleOfAll() {
        Check.sentence("5 tale: how many are done (all)");
        taleIs(2, "s01", 1);
        taleIs(2, TEN, 10);
        taleIs(5, "s34,s23,s12,s01,c0,c1,c2,c3", 8);
        taleIs(5, "s34,s23,s12,s01,y0,y1,y2,y3", 8);
    }

    private static void taleEndsAheadOfTheFirst() {
        Check.sentence("5 tale: ahead of the first that MAY not be");
        taleIs(2, "s01,s01,c0", 1);
        taleIs(2, TEN.substring(0, 32) + "c1", 9);
        taleIs(2, "s01,c0,c0,s01,c0", 2);
    }

    private static void taleNamesNothing() {
        Check.sentence("5 tale: (or names nothing)");
        taleIs(0, "s01", 0);
        taleIs(0, "c0", 0);
        taleIs(2, "s02", 0);
        taleIs(2, "s20", 0);
        taleIs(2, "c2", 0);
        taleIs(2, "y4", 0);
        taleIs(4, "s01,c0,s03,c4,c0", 3);
        taleIs(4, "s01,s40,c0", 1);
        taleIs(5, "s04,c0,s40,c4", 4);
    }

    private static void taleStateOfAnEmptyPage() {
        Check.sentence("5 tale: STATE: THE PAGE is none (no letters)");
        taleIsState("");
        SwallowedInTurn none = new SwallowedInTurn();
        Check.refused(none, "tale() of none", none::tale, STATE);
        SwallowedInTurn x = page(2, "c0");
        x.blank();
        Check.refused(x, "tale() of an emptied page", x::tale, STATE);
    }

    private static void taleStateOfHalfADeed() {
        Check.sentence("5 tale: STATE: THE PAGE is none (the last is no whole one)");
        String[] halves = {"s", "s0", "c", "y", "c0,", "s01,s", "s01,s0", "s01,c", "s01,y", TEN.substring(0, 33)};
        for (String text : halves) {
            taleIsState(text);
        }
    }

    private static void taleStateOfAFault() {
        Check.sentence("5 tale: STATE: THE PAGE is none (it has a fault)");
        String[] faulty = {"x", ",", "s05", "s50", "c5", "y5", "s015", "c0c0", "c0,,c0", "c0 ", "s01,s05", TEN + ",",
            TEN + "x", TEN_LONG + ","};
        for (String text : faulty) {
            taleIsState(text);
        }
    }
}
