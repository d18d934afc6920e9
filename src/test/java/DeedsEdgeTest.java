/** The boundary cases of the deeds ("1 BEINGS", DEEDS as numbers); each method tests one sentence. */
public final class DeedsEdgeTest {
    private static final int STATE = -103;
    private static final int BEING = 0, BEAST = 1, FISH = 2, WOLF = 3, PIKE = 4;

    public static void main(String[] args) {
        swallowsAreFiveTimesAAndB();
        theEaterIsABeast();
        itLikesTheOwnKindAlone();
        bothAreInTheSame();
        aIsNotB();
        sizesAreNoMoreThanTheRoom();
        bIsNotFull();
        withAllThatIsInIt();
        coughsAreThirtyAndA();
        coughOneAtLeast();
        theGreatestNumberComesOut();
        itComesOutToWhereAIs();
        ofAWolfTwo();
        ofAWolfIfThereAreTwo();
        yawnsAreFortyAndA();
        yawnOneAtLeast();
        allRightInItComeOut();
        fishAndPikesCannotYawn();
        aCoughMustHaveRoom();
        aWolfsCoughMustHaveRoomForBoth();
        aYawnMustHaveRoomForAll();
        outsideThereIsRoomForAll();
        Check.end();
    }

    private static void mayOrNot(String what, SwallowedInTurn x, int deed, int due) {
        Check.due("may(" + deed + "), " + what, x.may(deed), due);
        if (due == 0) {
            Check.refused(x, "deed(" + deed + "), " + what, () -> x.deed(deed), STATE);
        } else {
            Check.does(x, deed);
        }
    }

    // ---- a SWALLOWS b

    private static void swallowsAreFiveTimesAAndB() {
        Check.sentence("Terms 1: 0 to 24: 5 times a, and b: a SWALLOWS b");
        for (int a = 0; a < 5; a++) {
            for (int b = 0; b < 5; b++) {
                if (a != b) {
                    SwallowedInTurn x = Check.beasts(5);
                    Check.does(x, 5 * a + b);
                    Check.due("about(" + b + ", 4) after deed(" + (5 * a + b) + ")", x.about(b, 4), a);
                    Check.due("count(1) after it", x.count(1), 4);
                }
            }
        }
    }

    private static void theEaterIsABeast() {
        Check.sentence("Terms 1: a is a BEAST");
        for (int kind = BEING; kind <= PIKE; kind++) {
            SwallowedInTurn x = Check.beings(kind, 1, 20, 31, BEING, 1, 0, 0);
            mayOrNot("a is of kind " + kind, x, 1, kind == BEING ? 0 : 1);
        }
    }

    private static void itLikesTheOwnKindAlone() {
        Check.sentence("Terms 1: LIKES the KIND of b (by the bit of b's own KIND alone)");
        for (int kind = BEING; kind <= PIKE; kind++) {
            mayOrNot("a likes kind " + kind + " alone, b is of it",
                    Check.beings(BEAST, 1, 20, 1 << kind, kind, 1, 0, 0), 1, 1);
            mayOrNot("a likes all but kind " + kind + ", b is of it",
                    Check.beings(BEAST, 1, 20, 31 - (1 << kind), kind, 1, 0, 0), 1, 0);
            mayOrNot("a likes nothing", Check.beings(BEAST, 1, 20, 0, kind, 1, 0, 31), 1, 0);
            mayOrNot("a likes all", Check.beings(BEAST, 1, 20, 31, kind, 1, 0, 0), 1, 1);
        }
    }

    private static void bothAreInTheSame() {
        Check.sentence("Terms 1: both are right in the same one (or both OUTSIDE)");
        mayOrNot("both outside", Check.beasts(2), 1, 1);
        SwallowedInTurn same = Check.beasts(3);
        Check.does(same, 10, 11);
        mayOrNot("both right in 2", same, 1, 1);
        SwallowedInTurn x = Check.beasts(5);
        Check.does(x, 1, 13);
        // 1 in 0, 3 in 2, 4 by itself.
        int[] none = {8, 16, 9, 21, 7, 11, 5, 17, 23, 1, 13};
        for (int deed : none) {
            mayOrNot("1 in 0, 3 in 2", x, deed, 0);
        }
        Check.does(x, 2);
        // 1 and 2 in 0, 3 in 2.
        mayOrNot("in the same, but one of them a wall deeper", x, 8, 0);
        mayOrNot("in the same, but one of them a wall deeper", x, 16, 0);
        mayOrNot("1 and 2 right in 0", x, 11, 1);
    }

    private static void aIsNotB() {
        Check.sentence("Terms 1: a is not b");
        for (int a = 0; a < 5; a++) {
            mayOrNot("itself outside", Check.beasts(5), 6 * a, 0);
        }
        SwallowedInTurn x = Check.chain(5);
        for (int a = 0; a < 5; a++) {
            mayOrNot("itself in another", x, 6 * a, 0);
        }
    }

    private static void sizesAreNoMoreThanTheRoom() {
        Check.sentence("Terms 1: FILLED and the SIZE of b are no more than the ROOM of a");
        for (int size = 1; size <= 9; size++) {
            mayOrNot("size " + size + ", room as much",
                    Check.beings(BEAST, 1, size, 31, BEING, size, 0, 0), 1, 1);
            mayOrNot("size " + size + ", room one less",
                    Check.beings(BEAST, 1, size - 1, 31, BEING, size, 0, 0), 1, 0);
        }
        SwallowedInTurn most = Check.beings(BEAST, 1, 20, 31, BEING, 9, 0, 0, BEING, 2, 0, 0, BEING, 9, 0, 0);
        Check.does(most, 1, 2);
        mayOrNot("11 and 9 in room 20", most, 3, 1);
        SwallowedInTurn more = Check.beings(BEAST, 1, 20, 31, BEING, 9, 0, 0, BEING, 3, 0, 0, BEING, 9, 0, 0);
        Check.does(more, 1, 2);
        mayOrNot("12 and 9 in room 20", more, 3, 0);
        // 2 is in 1: it does not fill 0.
        SwallowedInTurn deeper = Check.beings(BEAST, 1, 3, 31, BEAST, 1, 9, 31, BEING, 5, 0, 0, BEING, 2, 0, 0);
        Check.does(deeper, 7, 1);
        mayOrNot("1 and 2 in room 3, 5 a wall deeper", deeper, 3, 1);
    }

    private static void bIsNotFull() {
        Check.sentence("Terms 1: b is not FULL (FILLED just as much as its ROOM, which is not 0)");
        mayOrNot("b has no room", Check.beings(BEAST, 1, 20, 31, BEAST, 1, 0, 31), 1, 1);
        mayOrNot("b is empty, its room 1", Check.beings(BEAST, 1, 20, 31, BEAST, 1, 1, 31), 1, 1);
        mayOrNot("b is empty, its room 20", Check.beings(BEAST, 1, 20, 31, BEAST, 1, 20, 31), 1, 1);
        int[][] roomsAndSizes = {{1, 1, 0}, {2, 1, 1}, {9, 9, 0}, {9, 8, 1}, {10, 9, 1}, {20, 9, 1}};
        for (int[] r : roomsAndSizes) {
            SwallowedInTurn x = Check.beings(BEAST, 1, 20, 31, BEAST, 1, r[0], 31, BEING, r[1], 0, 0);
            Check.does(x, 7);
            mayOrNot("b of room " + r[0] + " is filled by " + r[1], x, 1, r[2]);
        }
        SwallowedInTurn most = Check.beings(BEAST, 1, 20, 31, BEAST, 1, 20, 31, BEING, 9, 0, 0, BEING, 9, 0, 0,
                BEING, 2, 0, 0);
        Check.does(most, 7, 8, 9);
        mayOrNot("b of room 20 is filled by 20", most, 1, 0);
        Check.does(most, 31);
        mayOrNot("b of room 20 is filled by 18", most, 1, 1);
    }

    private static void withAllThatIsInIt() {
        Check.sentence("Terms 1: b is IN a then (with all that is in it)");
        SwallowedInTurn x = Check.beasts(5);
        Check.does(x, 19, 13, 11);
        // 4 in 3 in 2, and 1 in 2.
        Check.does(x, 2);
        int[] holders = {-1, 2, 0, 2, 3};
        for (int being = 0; being < 5; being++) {
            Check.due("about(" + being + ", 4)", x.about(being, 4), holders[being]);
        }
        Check.due("about(0, 5), by 2 alone", x.about(0, 5), 1);
        Check.due("about(4, 6)", x.about(4, 6), 3);
    }

    // ---- a COUGHS

    private static void coughsAreThirtyAndA() {
        Check.sentence("Terms 1: 30 and a: a COUGHS");
        for (int a = 0; a < 5; a++) {
            SwallowedInTurn x = Check.beasts(5);
            int b = a == 0 ? 4 : 0;
            Check.does(x, 5 * a + b);
            for (int other = 0; other < 5; other++) {
                Check.due("may(" + (30 + other) + ") when " + b + " is in " + a, x.may(30 + other), other == a ? 1 : 0);
            }
            Check.does(x, 30 + a);
            Check.due("number() after deed(" + (30 + a) + ")", x.number(), 0);
        }
    }

    private static void coughOneAtLeast() {
        Check.sentence("Terms 1: a COUGHS: of those right IN it (one at least)");
        for (int kind = BEING; kind <= PIKE; kind++) {
            mayOrNot("kind " + kind + " is empty", Check.beings(kind, 1, 20, 31, BEING, 1, 0, 0), 30, 0);
        }
        for (int kind = BEAST; kind <= PIKE; kind++) {
            SwallowedInTurn x = Check.beings(kind, 1, 20, 31, BEING, 1, 0, 0);
            Check.does(x, 1);
            mayOrNot("one is in kind " + kind, x, 30, 1);
            mayOrNot("none is in kind " + kind + " any more", x, 30, 0);
        }
    }

    private static void theGreatestNumberComesOut() {
        Check.sentence("Terms 1: the one of the greatest number comes out");
        int[] kinds = {BEAST, FISH, PIKE};
        int[] then = {3 + 3 * 6 + 3 * 216, 3 + 3 * 6, 3, 0};
        for (int kind : kinds) {
            SwallowedInTurn x = Check.beings(BEING, 1, 0, 0, BEING, 1, 0, 0, kind, 1, 20, 31, BEING, 1, 0, 0,
                    BEING, 1, 0, 0);
            Check.does(x, 14, 10, 13, 11);
            for (int number : then) {
                Check.does(x, 32);
                Check.due("number() after a cough of kind " + kind, x.number(), number);
            }
        }
        // 4 is in 1 in 0: but 1 is right in 0.
        SwallowedInTurn deeper = Check.beasts(5);
        Check.does(deeper, 9, 1, 30);
        Check.due("number() when 4 is a wall deeper", deeper.number(), 2 * 1296);
    }

    private static void itComesOutToWhereAIs() {
        Check.sentence("Terms 1: comes out to where a is");
        SwallowedInTurn x = Check.chain(5);
        Check.does(x, 33);
        Check.due("about(4, 4) when 3 is in 2", x.about(4, 4), 2);
        Check.does(x, 32);
        Check.due("about(4, 4) when 2 is in 1", x.about(4, 4), 1);
        Check.due("about(3, 4), that stays in 2", x.about(3, 4), 2);
        Check.does(x, 31);
        Check.due("about(4, 4) when 1 is in 0", x.about(4, 4), 0);
        Check.does(x, 30);
        Check.due("about(4, 4) when 0 is outside", x.about(4, 4), -1);
    }

    private static void ofAWolfTwo() {
        Check.sentence("Terms 1: of a WOLF the two of the greatest numbers");
        SwallowedInTurn x = Check.beings(BEING, 1, 0, 0, BEING, 1, 0, 0, WOLF, 1, 20, 31, BEING, 1, 0, 0,
                BEING, 1, 0, 0);
        Check.does(x, 14, 10, 13, 11, 32);
        Check.due("number() of four in a wolf that coughed", x.number(), 3 + 3 * 6);
        Check.does(x, 32);
        Check.due("number() of two in a wolf that coughed", x.number(), 0);
        Check.does(x, 14, 10, 11, 32);
        Check.due("number() of three in a wolf that coughed", x.number(), 3);
    }

    private static void ofAWolfIfThereAreTwo() {
        Check.sentence("Terms 1: of a WOLF the two .., if there are two");
        SwallowedInTurn x = Check.beings(WOLF, 1, 20, 31, BEAST, 1, 20, 31, BEING, 1, 0, 0, BEING, 1, 0, 0);
        Check.does(x, 7, 8, 1);
        mayOrNot("one is right in a wolf, with two in it", x, 30, 1);
        Check.due("number(): two stay in 1", x.number(), 2 * 36 + 2 * 216);
        mayOrNot("the wolf is empty", x, 30, 0);
    }

    // ---- a YAWNS

    private static void yawnsAreFortyAndA() {
        Check.sentence("Terms 1: 40 and a: a YAWNS");
        for (int a = 0; a < 5; a++) {
            SwallowedInTurn x = Check.beasts(5);
            int b = a == 0 ? 4 : 0;
            Check.does(x, 5 * a + b);
            for (int other = 0; other < 5; other++) {
                Check.due("may(" + (40 + other) + ") when " + b + " is in " + a, x.may(40 + other), other == a ? 1 : 0);
            }
            Check.does(x, 40 + a);
            Check.due("number() after deed(" + (40 + a) + ")", x.number(), 0);
        }
    }

    private static void yawnOneAtLeast() {
        Check.sentence("Terms 1: a YAWNS: all that are right IN it (one at least)");
        for (int kind = BEING; kind <= PIKE; kind++) {
            mayOrNot("kind " + kind + " is empty", Check.beings(kind, 1, 20, 31, BEING, 1, 0, 0), 40, 0);
        }
        SwallowedInTurn x = Check.beasts(2);
        Check.does(x, 1);
        mayOrNot("one is in it", x, 40, 1);
        mayOrNot("none is in it any more", x, 40, 0);
    }

    private static void allRightInItComeOut() {
        Check.sentence("Terms 1: all that are right IN it come out to where it is");
        for (int kind = BEAST; kind <= WOLF; kind += WOLF - BEAST) {
            SwallowedInTurn x = Check.beings(BEING, 1, 0, 0, BEING, 1, 0, 0, kind, 1, 20, 31, BEING, 1, 0, 0,
                    BEING, 1, 0, 0);
            Check.does(x, 10, 11, 13, 14, 42);
            Check.due("number() of four in kind " + kind + " that yawned", x.number(), 0);
        }
        SwallowedInTurn x = Check.beasts(5);
        Check.does(x, 19, 17, 8, 1);
        // 4 and 2 are in 3 in 1 in 0.
        Check.does(x, 41);
        Check.due("number(): 3 came out into 0, 2 and 4 stay in it", x.number(), 6 + 4 * 36 + 216 + 4 * 1296);
        Check.does(x, 43);
        Check.due("number(): 2 and 4 came out into 0", x.number(), 6 + 36 + 216 + 1296);
        Check.does(x, 40);
        Check.due("number(): all came out", x.number(), 0);
    }

    private static void fishAndPikesCannotYawn() {
        Check.sentence("Terms 1: a FISH, a PIKE can't");
        for (int kind = BEAST; kind <= PIKE; kind++) {
            SwallowedInTurn x = Check.beings(kind, 1, 20, 31, BEING, 1, 0, 0);
            Check.does(x, 1);
            mayOrNot("one is in kind " + kind, x, 40, kind == FISH || kind == PIKE ? 0 : 1);
        }
    }

    // ---- ROOM for what comes out

    /** Beings of these sizes are in 1, of size 4, and it is in 0. */
    private static SwallowedInTurn innerWith(int outerRoom, int innerKind, int... sizes) {
        SwallowedInTurn x = Check.beings(BEAST, 9, outerRoom, 31, innerKind, 4, 20, 31);
        for (int i = 0; i < sizes.length; i++) {
            x.being(BEING, sizes[i], 0, 0);
            Check.does(x, 7 + i);
        }
        Check.does(x, 1);
        return x;
    }

    private static void aCoughMustHaveRoom() {
        Check.sentence("Terms 1: What comes out into another one must have ROOM there (a cough)");
        mayOrNot("4 and 3 in room 7", innerWith(7, BEAST, 3), 31, 1);
        mayOrNot("4 and 3 in room 6", innerWith(6, BEAST, 3), 31, 0);
        mayOrNot("4 and the last's 1 in room 5", innerWith(5, BEAST, 9, 1), 31, 1);
        mayOrNot("4 and the last's 2 in room 5", innerWith(5, BEAST, 1, 2), 31, 0);
        SwallowedInTurn x = innerWith(20, BEAST, 9, 9, 1);
        Check.does(x, 31);
        mayOrNot("5 and 9 in room 20", x, 31, 1);
        mayOrNot("14 and 9 in room 20", x, 31, 0);
        SwallowedInTurn just = innerWith(20, BEAST, 9, 7);
        Check.does(just, 31);
        mayOrNot("11 and 9 in room 20", just, 31, 1);
        for (int room = 6; room <= 7; room++) {
            SwallowedInTurn first = Check.beings(BEING, 3, 0, 0, BEAST, 4, 20, 31, BEAST, 9, room, 31);
            Check.does(first, 5, 11);
            mayOrNot("4 and being 0's 3 in room " + room, first, 31, room - 6);
        }
    }

    private static void aWolfsCoughMustHaveRoomForBoth() {
        Check.sentence("Terms 1: FILLED and their SIZES are no more than its ROOM, else the DEED MAY not be (a wolf's cough)");
        mayOrNot("4, 3 and 2 in room 9", innerWith(9, WOLF, 3, 2), 31, 1);
        mayOrNot("4, 3 and 2 in room 8", innerWith(8, WOLF, 3, 2), 31, 0);
        mayOrNot("4, 2 and 1 in room 7, 9 stays", innerWith(7, WOLF, 9, 2, 1), 31, 1);
        mayOrNot("4 and 2 in room 6", innerWith(6, WOLF, 2), 31, 1);
        mayOrNot("4 and 2 in room 5", innerWith(5, WOLF, 2), 31, 0);
    }

    private static void aYawnMustHaveRoomForAll() {
        Check.sentence("Terms 1: FILLED and their SIZES are no more than its ROOM, else the DEED MAY not be (a yawn)");
        mayOrNot("4, 1, 2 and 3 in room 10", innerWith(10, BEAST, 1, 2, 3), 41, 1);
        mayOrNot("4, 1, 2 and 3 in room 9", innerWith(9, BEAST, 1, 2, 3), 41, 0);
        mayOrNot("4, 9 and 7 in room 20, of a wolf", innerWith(20, WOLF, 9, 7), 41, 1);
        mayOrNot("4, 9 and 8 in room 20, of a wolf", innerWith(20, WOLF, 9, 8), 41, 0);
        mayOrNot("4 and 1 in room 5", innerWith(5, BEAST, 1), 41, 1);
        mayOrNot("4 and 1 in room 4", innerWith(4, BEAST, 1), 41, 0);
    }

    private static void outsideThereIsRoomForAll() {
        Check.sentence("Terms 1: What comes out into another one must have ROOM (OUTSIDE none is asked)");
        for (int kind = BEAST; kind <= PIKE; kind++) {
            SwallowedInTurn x = Check.beings(kind, 9, 20, 31, BEING, 9, 0, 0, BEING, 9, 0, 0, BEING, 2, 0, 0);
            Check.does(x, 1, 2, 3);
            mayOrNot("a full one of kind " + kind + " coughs outside", x, 30, 1);
        }
        SwallowedInTurn x = Check.beings(BEAST, 9, 20, 31, BEING, 9, 0, 0, BEING, 9, 0, 0, BEING, 2, 0, 0);
        Check.does(x, 1, 2, 3);
        mayOrNot("a full one yawns outside", x, 40, 1);
        Check.due("number() then", x.number(), 0);
    }
}
