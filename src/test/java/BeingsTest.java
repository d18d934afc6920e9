/** Promises 1 and 6 to 11: beings, of what kinds they are, and their deeds. */
public final class BeingsTest {
    private static final int BEING = 0, BEAST = 1, FISH = 2, WOLF = 3, PIKE = 4;

    public static void main(String[] args) {
        aNewObjectHasNoBeings();
        beingsComeUpToFive();
        beingIsRefusedOutside();
        aboutTellsAll();
        asKnowsTheKinds();
        mayIsRefused();
        onlyBeastsThatLikeItSwallow();
        sizesMustFit();
        theFirstFillsToo();
        theFullAreNotSwallowed();
        theyMustBeInTheSame();
        coughsAndYawns();
        whatComesOutMustHaveRoom();
        deedsAreCounted();
        Check.end();
    }

    private static void aNewObjectHasNoBeings() {
        SwallowedInTurn x = new SwallowedInTurn();
        for (int what = 0; what <= 5; what++) {
            Check.due("new: count(" + what + ")", x.count(what), 0);
        }
        Check.due("new: about(0, 0)", x.about(0, 0), SwallowedInTurn.UNKNOWN);
        Check.due("new: as(0, 0)", x.as(0, 0), SwallowedInTurn.UNKNOWN);
        Check.due("new: may(0)", x.may(0), SwallowedInTurn.UNKNOWN);
        Check.due("new: deed(30)", x.deed(30), SwallowedInTurn.UNKNOWN);
        Check.due("new: number()", x.number(), 0);
        Check.due("new: fault()", x.fault(), 0);
        Check.due("new: tale()", x.tale(), SwallowedInTurn.STATE);
        Check.due("new: many()", x.many(), 1);
        Check.due("new: nesting(0)", x.nesting(0), 0);
        Check.due("new: fits()", x.fits(), 1);
        Check.due("new: ask()", x.ask(), SwallowedInTurn.NONE);
        Check.due("new: restore()", x.restore(), SwallowedInTurn.STATE);
        SwallowedInTurn other = Check.beasts(2);
        other.deed(1);
        Check.due("another's beings are not its own", x.count(0), 0);
    }

    private static void beingsComeUpToFive() {
        SwallowedInTurn x = new SwallowedInTurn();
        Check.due("being 0, least of all", x.being(0, 1, 0, 0), 0);
        Check.due("being 1, most of all", x.being(4, 9, 20, 31), 1);
        for (int i = 2; i < 5; i++) {
            Check.due("being " + i, x.being(1, 2, 3, 4), i);
        }
        Check.due("being 5", x.being(1, 2, 3, 4), SwallowedInTurn.FULL);
        Check.due("being 5, outside", x.being(5, 2, 3, 4), SwallowedInTurn.OUTSIDE);
        Check.due("beings", x.count(0), 5);
        Check.due("all are outside", x.count(1), 5);
        Check.due("number of all outside", x.number(), 0);
        Check.due("what came stays", x.about(4, 3), 4);
    }

    private static void beingIsRefusedOutside() {
        SwallowedInTurn x = new SwallowedInTurn();
        int[][] wrong = {{-1, 1, 1, 1}, {5, 1, 1, 1}, {1, 0, 1, 1}, {1, 10, 1, 1}, {1, 1, -1, 1}, {1, 1, 21, 1},
            {1, 1, 1, -1}, {1, 1, 1, 32}, {Integer.MIN_VALUE, 1, 1, 1}, {1, Integer.MAX_VALUE, 1, 1},
            {1, 1, Integer.MAX_VALUE, 1}, {1, 1, 1, Integer.MIN_VALUE}};
        for (int[] w : wrong) {
            Check.due("being(" + w[0] + ", " + w[1] + ", " + w[2] + ", " + w[3] + ")",
                    x.being(w[0], w[1], w[2], w[3]), SwallowedInTurn.OUTSIDE);
        }
        Check.due("none came", x.count(0), 0);
    }

    private static void aboutTellsAll() {
        SwallowedInTurn x = new SwallowedInTurn();
        x.being(BEAST, 3, 20, 31);
        x.being(WOLF, 4, 10, 30);
        x.being(PIKE, 5, 9, 29);
        x.being(BEING, 1, 7, 28);
        aboutIs(x, 0, 1, 3, 20, 31, -1, 0, 0, 14);
        aboutIs(x, 3, 0, 1, 7, 28, -1, 0, 0, 7);
        x.deed(7);
        x.deed(1);
        x.deed(3);
        aboutIs(x, 0, 1, 3, 20, 31, -1, 5, 0, 10);
        aboutIs(x, 1, 3, 4, 10, 30, 0, 5, 1, 13);
        aboutIs(x, 2, 4, 5, 9, 29, 1, 0, 2, 10);
        aboutIs(x, 3, 0, 1, 7, 28, 0, 0, 1, 7);
        Check.due("about(4, 0)", x.about(4, 0), SwallowedInTurn.UNKNOWN);
        Check.due("about(-1, 0)", x.about(-1, 0), SwallowedInTurn.UNKNOWN);
        Check.due("about(MAX, 8)", x.about(Integer.MAX_VALUE, 8), SwallowedInTurn.UNKNOWN);
        Check.due("about(0, 8)", x.about(0, 8), SwallowedInTurn.OUTSIDE);
        Check.due("about(0, -1)", x.about(0, -1), SwallowedInTurn.OUTSIDE);
        hearingGoesThroughOneWall();
    }

    private static void aboutIs(SwallowedInTurn x, int being, int... due) {
        for (int what = 0; what < due.length; what++) {
            Check.due("about(" + being + ", " + what + ")", x.about(being, what), due[what]);
        }
    }

    private static void hearingGoesThroughOneWall() {
        SwallowedInTurn x = Check.beasts(5);
        x.deed(1);
        x.deed(13);
        // 1 in 0, 3 in 2, 4 by itself: 1 and 3 have two walls between them.
        heardIs(x, 0b11110, 0b10101, 0b11011, 0b10101, 0b01111);
        x.deed(2);
        // 1 and 2 in 0, 3 in 2: 3 has two walls to 0, and to 4.
        heardIs(x, 0b10110, 0b11101, 0b11011, 0b00110, 0b00111);
        SwallowedInTurn chain = Check.beasts(5);
        chain.deed(19);
        chain.deed(13);
        chain.deed(7);
        chain.deed(1);
        heardIs(chain, 0b00010, 0b00101, 0b01010, 0b10100, 0b01000);
    }

    private static void heardIs(SwallowedInTurn x, int... due) {
        for (int being = 0; being < due.length; being++) {
            Check.due("about(" + being + ", 7) at " + x.number(), x.about(being, 7), due[being]);
        }
    }

    private static void asKnowsTheKinds() {
        SwallowedInTurn x = new SwallowedInTurn();
        for (int kind = 4; kind >= 0; kind--) {
            x.being(kind, 1, 1, 1);
        }
        // Being 4 - k is of kind k.
        String[] kindsOfKind = {"0", "01", "012", "013", "0124"};
        for (int kind = 0; kind <= 4; kind++) {
            for (int taken = 0; taken <= 4; taken++) {
                boolean isOne = kindsOfKind[kind].indexOf('0' + taken) >= 0;
                Check.due("as(" + (4 - kind) + ", " + taken + ")", x.as(4 - kind, taken), isOne ? 4 - kind : -1);
            }
        }
        Check.due("as(5, 0)", x.as(5, 0), SwallowedInTurn.UNKNOWN);
        Check.due("as(-1, 9)", x.as(-1, 9), SwallowedInTurn.UNKNOWN);
        Check.due("as(0, 5)", x.as(0, 5), SwallowedInTurn.OUTSIDE);
        Check.due("as(0, -1)", x.as(0, -1), SwallowedInTurn.OUTSIDE);
        Check.due("as(0, 32)", x.as(0, 32), SwallowedInTurn.OUTSIDE);
    }

    private static void mayIsRefused() {
        SwallowedInTurn five = Check.beasts(5);
        SwallowedInTurn two = Check.beasts(2);
        for (int deed = -3; deed < 60; deed++) {
            boolean isDeed = deed >= 0 && deed <= 24 || deed >= 30 && deed <= 34 || deed >= 40 && deed <= 44;
            boolean areTwo = deed == 0 || deed == 1 || deed == 5 || deed == 6
                    || deed == 30 || deed == 31 || deed == 40 || deed == 41;
            boolean swallowsAnother = deed >= 0 && deed <= 24 && deed / 5 != deed % 5;
            int due = swallowsAnother ? 1 : 0;
            Check.due("five: may(" + deed + ")", five.may(deed), isDeed ? due : SwallowedInTurn.UNKNOWN);
            Check.due("two: may(" + deed + ")", two.may(deed), areTwo ? due : SwallowedInTurn.UNKNOWN);
            if (!areTwo) {
                Check.due("two: deed(" + deed + ")", two.deed(deed), SwallowedInTurn.UNKNOWN);
            } else if (due == 0) {
                Check.due("two: deed(" + deed + ")", two.deed(deed), SwallowedInTurn.STATE);
            }
        }
        Check.due("may(MIN)", five.may(Integer.MIN_VALUE), SwallowedInTurn.UNKNOWN);
        Check.due("may(MAX)", five.may(Integer.MAX_VALUE), SwallowedInTurn.UNKNOWN);
        Check.due("refused deeds are none", two.count(2), 0);
        Check.due("refused deeds change nothing", two.number(), 0);
    }

    private static void onlyBeastsThatLikeItSwallow() {
        for (int eater = 0; eater <= 4; eater++) {
            for (int eaten = 0; eaten <= 4; eaten++) {
                for (int liked = 0; liked <= 4; liked++) {
                    SwallowedInTurn x = new SwallowedInTurn();
                    x.being(eater, 1, 20, 1 << liked);
                    x.being(eaten, 1, 0, 0);
                    Check.due("kind " + eater + " that likes " + liked + " swallows kind " + eaten,
                            x.may(1), eater != BEING && liked == eaten ? 1 : 0);
                }
            }
        }
    }

    private static void sizesMustFit() {
        for (int room = 0; room <= 20; room++) {
            SwallowedInTurn x = new SwallowedInTurn();
            x.being(BEAST, 9, room, 31);
            x.being(BEING, 3, 0, 0);
            x.being(BEING, 4, 0, 0);
            Check.due("room " + room + " takes size 3", x.may(1), room >= 3 ? 1 : 0);
            Check.due("room " + room + " takes size 4", x.may(2), room >= 4 ? 1 : 0);
            x.deed(1);
            Check.due("room " + room + " takes size 4 behind 3", x.may(2), room == 3 ? 0 : room >= 7 ? 1 : 0);
        }
    }

    /** Being 0 fills as any other. */
    private static void theFirstFillsToo() {
        SwallowedInTurn x = new SwallowedInTurn();
        x.being(BEAST, 3, 3, 1 << BEING);
        x.being(BEAST, 1, 4, 31);
        x.being(BEING, 2, 0, 0);
        x.deed(5);
        Check.due("filled by being 0", x.about(1, 5), 3);
        Check.due("no room behind being 0", x.may(7), 0);
        SwallowedInTurn y = new SwallowedInTurn();
        y.being(BEING, 3, 0, 0);
        y.being(BEAST, 2, 9, 31);
        y.being(BEAST, 2, 4, 31);
        y.deed(5);
        y.deed(11);
        Check.due("no room for being 0 to come out", y.may(31), 0);
        y.deed(32);
        Check.due("room for being 0 outside", y.may(31), 1);
    }

    private static void theFullAreNotSwallowed() {
        SwallowedInTurn x = new SwallowedInTurn();
        x.being(BEAST, 9, 20, 31);
        x.being(BEAST, 2, 3, 31);
        x.being(BEING, 2, 0, 0);
        x.being(BEING, 1, 0, 0);
        Check.due("an empty one with room", x.may(1), 1);
        Check.due("an empty one without room", x.may(2), 1);
        x.deed(7);
        Check.due("one filled, not full", x.may(1), 1);
        x.deed(8);
        Check.due("one that is full", x.may(1), 0);
        Check.due("one that is full, as a deed", x.deed(1), SwallowedInTurn.STATE);
        x.deed(31);
        Check.due("one that was full", x.may(1), 1);
    }

    private static void theyMustBeInTheSame() {
        SwallowedInTurn x = Check.beasts(4);
        x.deed(1);
        Check.due("one inside swallows one outside", x.may(7), 0);
        Check.due("one inside swallows whom it is in", x.may(5), 0);
        Check.due("one outside swallows one inside", x.may(11), 0);
        Check.due("who has it in swallows it again", x.may(1), 0);
        x.deed(2);
        Check.due("two inside the same", x.may(7), 1);
        Check.due("two outside", x.may(3), 1);
        Check.due("deed within", x.deed(7), 3);
        Check.due("number of the deed within", x.number(), 6 + 2 * 36);
        x.deed(15);
        Check.due("swallowed with all that is in it", x.number(), 4 + 6 + 2 * 36);
    }

    private static SwallowedInTurn filledWithThree(int kind) {
        SwallowedInTurn x = new SwallowedInTurn();
        x.being(BEING, 1, 0, 0);
        x.being(BEING, 1, 0, 0);
        x.being(kind, 1, 20, 31);
        x.being(BEING, 1, 0, 0);
        x.deed(10);
        x.deed(11);
        x.deed(13);
        return x;
    }

    private static void coughsAndYawns() {
        int[] afterOne = {0, 3 + 3 * 6, 3 + 3 * 6, 3, 3 + 3 * 6};
        int[] afterTwo = {0, 3, 3, 0, 3};
        for (int kind = BEAST; kind <= PIKE; kind++) {
            SwallowedInTurn x = filledWithThree(kind);
            Check.due("kind " + kind + " may cough", x.may(32), 1);
            Check.due("kind " + kind + " may yawn", x.may(42), kind == FISH || kind == PIKE ? 0 : 1);
            x.deed(32);
            Check.due("kind " + kind + " has coughed", x.number(), afterOne[kind]);
            x.deed(32);
            Check.due("kind " + kind + " has coughed twice", x.number(), afterTwo[kind]);
            Check.due("kind " + kind + " may cough a third time", x.may(32), kind == WOLF ? 0 : 1);
        }
        SwallowedInTurn x = filledWithThree(WOLF);
        x.deed(42);
        Check.due("a wolf has yawned", x.number(), 0);
        Check.due("an empty one may yawn", x.may(42), 0);
        Check.due("an empty one may cough", x.may(32), 0);
        x = Check.beasts(3);
        x.deed(1);
        x.deed(2);
        x.deed(40);
        Check.due("the first of all has yawned", x.number(), 0);
        x = filledWithThree(PIKE);
        Check.due("a pike yawns", x.deed(42), SwallowedInTurn.STATE);
        Check.due("a pike has not yawned", x.number(), 3 + 3 * 6 + 3 * 216);
    }

    private static SwallowedInTurn innerWithTwo(int outerRoom, int innerKind) {
        SwallowedInTurn x = new SwallowedInTurn();
        x.being(BEAST, 9, outerRoom, 31);
        x.being(innerKind, 4, 6, 31);
        x.being(BEING, 3, 0, 0);
        x.being(BEING, 2, 0, 0);
        x.deed(7);
        x.deed(8);
        x.deed(1);
        return x;
    }

    private static void whatComesOutMustHaveRoom() {
        Check.due("they are in one another", innerWithTwo(4, BEAST).number(), 6 + 2 * 36 + 2 * 216);
        Check.due("a cough where room is 5", innerWithTwo(5, BEAST).may(31), 0);
        Check.due("a cough where room is 6", innerWithTwo(6, BEAST).may(31), 1);
        Check.due("a yawn where room is 8", innerWithTwo(8, BEAST).may(41), 0);
        Check.due("a yawn where room is 9", innerWithTwo(9, BEAST).may(41), 1);
        Check.due("a wolf's cough where room is 8", innerWithTwo(8, WOLF).may(31), 0);
        Check.due("a wolf's cough where room is 9", innerWithTwo(9, WOLF).may(31), 1);
        SwallowedInTurn x = innerWithTwo(8, BEAST);
        Check.due("a yawn without room", x.deed(41), SwallowedInTurn.STATE);
        Check.due("a cough with room", x.deed(31), 4);
        Check.due("it came to where the other is", x.number(), 6 + 2 * 36 + 1 * 216);
        Check.due("now there is no room for the last", x.may(31), 0);
        x.deed(30);
        Check.due("the greatest number came out first", x.number(), 6 + 2 * 36);
    }

    private static void deedsAreCounted() {
        SwallowedInTurn x = Check.beasts(3);
        Check.due("deed 1", x.deed(1), 1);
        Check.due("the same again", x.deed(1), SwallowedInTurn.STATE);
        Check.due("deed 2", x.deed(2), 2);
        Check.due("deed 3", x.deed(30), 3);
        Check.due("no deed", x.deed(25), SwallowedInTurn.UNKNOWN);
        Check.due("a deed of one not there", x.deed(33), SwallowedInTurn.UNKNOWN);
        Check.due("a deed with one not there", x.deed(3), SwallowedInTurn.UNKNOWN);
        Check.due("deed 4", x.deed(40), 4);
        Check.due("deeds", x.count(2), 4);
    }
}
