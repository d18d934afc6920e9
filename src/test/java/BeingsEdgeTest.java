/** The boundary cases of the beings ("1 BEINGS", promises 6 to 11); each method tests one sentence. */
public final class BeingsEdgeTest {
    private static final int NONE = -1, UNKNOWN = -101, OUTSIDE = -102, STATE = -103, FULL = -104;
    private static final int BEING = 0, BEAST = 1, FISH = 2, WOLF = 3, PIKE = 4;

    public static void main(String[] args) {
        fiveBeingsAtMost();
        kindsOfKinds();
        eachIsOutsideAtFirst();
        filledBySizesRightInIt();
        kindFromZeroToFour();
        sizeFromOneToNine();
        roomFromZeroToTwenty();
        likesFromZeroToThirtyOne();
        outsideAheadOfFull();
        aboutUnknown();
        aboutOutside();
        aboutUnknownAheadOfOutside();
        aboutRightInWhich();
        aboutWalls();
        aboutWhomItHears();
        asItsOwnNumber();
        asNoneSuch();
        asUnknown();
        asOutside();
        asUnknownAheadOfOutside();
        mayUnknownNoDeed();
        mayUnknownNotThere();
        mayOneOrZero();
        deedHowManyThereWere();
        deedUnknownAsMay();
        deedState();
        numberOfAllOutside();
        numberByFigures();
        numberIsGreatest();
        Check.end();
    }

    // ---- 1 BEINGS

    private static void fiveBeingsAtMost() {
        Check.sentence("Terms 1: BEINGS (5 at most, numbered)");
        SwallowedInTurn x = new SwallowedInTurn();
        for (int i = 0; i < 5; i++) {
            Check.due("being " + i, x.being(BEAST, 1, 20, 31), i);
            Check.due("count(0)", x.count(0), i + 1);
        }
        for (int kind = BEING; kind <= PIKE; kind++) {
            int sixth = kind;
            Check.refused(x, "being(" + kind + ", 1, 0, 0), a sixth", () -> x.being(sixth, 1, 0, 0), FULL);
        }
        Check.does(x, 1);
        Check.refused(x, "a sixth when one is in another", () -> x.being(BEING, 1, 0, 0), FULL);
        Check.due("count(0)", x.count(0), 5);
    }

    private static void kindsOfKinds() {
        Check.sentence("Terms 1: All are BEINGS; FISH, WOLVES, PIKES are BEASTS, too; a PIKE is a FISH, too");
        int[][] isOne = {{1, 0, 0, 0, 0}, {1, 1, 0, 0, 0}, {1, 1, 1, 0, 0}, {1, 1, 0, 1, 0}, {1, 1, 1, 0, 1}};
        SwallowedInTurn x = Check.beings(BEING, 1, 0, 0, BEAST, 1, 0, 0, FISH, 1, 0, 0, WOLF, 1, 0, 0, PIKE, 1, 0, 0);
        for (int being = 0; being <= 4; being++) {
            for (int kind = BEING; kind <= PIKE; kind++) {
                Check.due("as(" + being + ", " + kind + ")", x.as(being, kind), isOne[being][kind] == 1 ? being : NONE);
            }
        }
    }

    private static void eachIsOutsideAtFirst() {
        Check.sentence("Terms 1: Each is OUTSIDE (at first)");
        SwallowedInTurn x = new SwallowedInTurn();
        for (int being = 0; being < 5; being++) {
            x.being(BEAST, 1, 20, 31);
            Check.due("about(" + being + ", 4), new", x.about(being, 4), NONE);
            Check.due("about(" + being + ", 5), new", x.about(being, 5), 0);
            Check.due("about(" + being + ", 6), new", x.about(being, 6), 0);
            if (being > 0) {
                // The next one comes when all that are there are in one another.
                Check.does(x, 5 * being + being - 1);
            }
            Check.due("count(1) with " + (being + 1), x.count(1), 1);
        }
        Check.due("number() when each has swallowed the last", x.number(), 2 + 3 * 6 + 4 * 36 + 5 * 216);
    }

    private static void filledBySizesRightInIt() {
        Check.sentence("Terms 1: FILLED is one by the SIZES of all that are right IN it, together");
        SwallowedInTurn x = Check.beings(BEAST, 9, 20, 31, BEAST, 2, 20, 31, BEING, 3, 0, 0, BEING, 4, 0, 0,
                BEING, 9, 0, 0);
        Check.due("about(0, 5), empty", x.about(0, 5), 0);
        Check.does(x, 1, 2, 3);
        Check.due("about(0, 5), three in it", x.about(0, 5), 9);
        Check.does(x, 4);
        Check.due("about(0, 5), four in it", x.about(0, 5), 18);
        Check.does(x, 7);
        Check.due("about(0, 5), one of them deeper", x.about(0, 5), 15);
        Check.due("about(1, 5), with that one", x.about(1, 5), 3);
        Check.does(x, 30, 30, 30);
        Check.due("about(0, 5), empty again", x.about(0, 5), 0);
        Check.due("about(1, 5), outside with that one", x.about(1, 5), 3);
        SwallowedInTurn most = Check.beings(BEAST, 1, 20, 31, BEING, 5, 0, 0, BEING, 5, 0, 0, BEING, 5, 0, 0,
                BEING, 5, 0, 0);
        Check.does(most, 1, 2, 3, 4);
        Check.due("about(0, 5), as much as can be", most.about(0, 5), 20);
        SwallowedInTurn first = Check.beings(BEING, 7, 0, 0, BEAST, 1, 20, 31);
        Check.does(first, 5);
        Check.due("about(1, 5), being 0 in it", first.about(1, 5), 7);
    }

    // ---- promise 6

    private static void kindFromZeroToFour() {
        Check.sentence("6 being: OUTSIDE: kind (0 to 4)");
        for (int kind = 0; kind <= 4; kind++) {
            SwallowedInTurn x = new SwallowedInTurn();
            Check.due("being(" + kind + ", 5, 5, 5)", x.being(kind, 5, 5, 5), 0);
            Check.due("about(0, 0)", x.about(0, 0), kind);
        }
        for (int kind : Check.around(-1, 5)) {
            SwallowedInTurn x = Check.beasts(1);
            Check.refused(x, "being(" + kind + ", 5, 5, 5)", () -> x.being(kind, 5, 5, 5), OUTSIDE);
        }
    }

    private static void sizeFromOneToNine() {
        Check.sentence("6 being: OUTSIDE: size; 1: a SIZE (1 to 9)");
        for (int size = 1; size <= 9; size++) {
            SwallowedInTurn x = new SwallowedInTurn();
            Check.due("being(1, " + size + ", 5, 5)", x.being(1, size, 5, 5), 0);
            Check.due("about(0, 1)", x.about(0, 1), size);
        }
        for (int size : Check.around(0, 10)) {
            SwallowedInTurn x = Check.beasts(1);
            Check.refused(x, "being(1, " + size + ", 5, 5)", () -> x.being(1, size, 5, 5), OUTSIDE);
        }
    }

    private static void roomFromZeroToTwenty() {
        Check.sentence("6 being: OUTSIDE: room; 1: ROOM (0 to 20)");
        for (int room = 0; room <= 20; room++) {
            SwallowedInTurn x = new SwallowedInTurn();
            Check.due("being(1, 5, " + room + ", 5)", x.being(1, 5, room, 5), 0);
            Check.due("about(0, 2)", x.about(0, 2), room);
        }
        for (int room : Check.around(-1, 21)) {
            SwallowedInTurn x = Check.beasts(1);
            Check.refused(x, "being(1, 5, " + room + ", 5)", () -> x.being(1, 5, room, 5), OUTSIDE);
        }
    }

    private static void likesFromZeroToThirtyOne() {
        Check.sentence("6 being: OUTSIDE: likes (0 to 31)");
        for (int likes = 0; likes <= 31; likes++) {
            SwallowedInTurn x = new SwallowedInTurn();
            Check.due("being(1, 5, 5, " + likes + ")", x.being(1, 5, 5, likes), 0);
            Check.due("about(0, 3)", x.about(0, 3), likes);
        }
        for (int likes : Check.around(-1, 32)) {
            SwallowedInTurn x = Check.beasts(1);
            Check.refused(x, "being(1, 5, 5, " + likes + ")", () -> x.being(1, 5, 5, likes), OUTSIDE);
        }
    }

    private static void outsideAheadOfFull() {
        Check.sentence("6 being: OUTSIDE: ..; FULL: of several the first");
        int[][] wrong = {{-1, 1, 0, 0}, {5, 1, 0, 0}, {1, 0, 0, 0}, {1, 10, 0, 0}, {1, 1, -1, 0}, {1, 1, 21, 0},
            {1, 1, 0, -1}, {1, 1, 0, 32}};
        SwallowedInTurn x = Check.beasts(5);
        for (int[] w : wrong) {
            Check.refused(x, "being(" + w[0] + ", " + w[1] + ", " + w[2] + ", " + w[3] + ") of five",
                    () -> x.being(w[0], w[1], w[2], w[3]), OUTSIDE);
        }
        Check.refused(x, "being(1, 1, 0, 0) of five", () -> x.being(1, 1, 0, 0), FULL);
        Check.refused(x, "being(4, 9, 20, 31) of five", () -> x.being(4, 9, 20, 31), FULL);
    }

    // ---- promise 7

    private static void aboutUnknown() {
        Check.sentence("7 about: UNKNOWN");
        for (int total = 0; total <= 5; total++) {
            SwallowedInTurn x = Check.beasts(total);
            for (int being = 0; being < total; being++) {
                Check.due("about(" + being + ", 0) of " + total, x.about(being, 0), BEAST);
            }
            for (int being : Check.around(-1, total)) {
                Check.refused(x, "about(" + being + ", 0) of " + total, () -> x.about(being, 0), UNKNOWN);
            }
        }
    }

    private static void aboutOutside() {
        Check.sentence("7 about: what = 0 .. 7; OUTSIDE");
        SwallowedInTurn x = Check.beings(PIKE, 9, 20, 31);
        int[] due = {PIKE, 9, 20, 31, NONE, 0, 0, 0};
        for (int what = 0; what <= 7; what++) {
            Check.due("about(0, " + what + ")", x.about(0, what), due[what]);
        }
        for (int what : Check.around(-1, 8)) {
            Check.refused(x, "about(0, " + what + ")", () -> x.about(0, what), OUTSIDE);
        }
    }

    private static void aboutUnknownAheadOfOutside() {
        Check.sentence("7 about: UNKNOWN; OUTSIDE: of several the first");
        SwallowedInTurn x = Check.beasts(2);
        Check.refused(x, "about(2, 8)", () -> x.about(2, 8), UNKNOWN);
        Check.refused(x, "about(-1, -1)", () -> x.about(-1, -1), UNKNOWN);
        Check.refused(x, "about(MAX, MAX)", () -> x.about(Integer.MAX_VALUE, Integer.MAX_VALUE), UNKNOWN);
        Check.refused(x, "about(MIN, MIN)", () -> x.about(Integer.MIN_VALUE, Integer.MIN_VALUE), UNKNOWN);
    }

    private static void aboutRightInWhich() {
        Check.sentence("7 about: 4 right IN which it is (NONE: OUTSIDE)");
        for (int holder = 0; holder <= 4; holder++) {
            SwallowedInTurn x = Check.beasts(5);
            int in = holder == 4 ? 0 : 4;
            Check.does(x, 5 * holder + in);
            Check.due("about(" + in + ", 4) in " + holder, x.about(in, 4), holder);
            Check.due("about(" + holder + ", 4), outside", x.about(holder, 4), NONE);
            Check.does(x, 30 + holder);
            Check.due("about(" + in + ", 4), out again", x.about(in, 4), NONE);
        }
    }

    private static void aboutWalls() {
        Check.sentence("7 about: 6 how many walls are around it");
        SwallowedInTurn x = Check.chain(5);
        for (int being = 0; being < 5; being++) {
            Check.due("about(" + being + ", 6) of a chain", x.about(being, 6), being);
        }
        Check.does(x, 30, 31, 32, 33);
        for (int being = 0; being < 5; being++) {
            Check.due("about(" + being + ", 6) outside", x.about(being, 6), 0);
        }
    }

    private static void aboutWhomItHears() {
        Check.sentence("7 about: 7 whom it HEARS, as bits");
        Check.due("about(0, 7), alone", Check.beasts(1).about(0, 7), 0);
        SwallowedInTurn x = Check.beasts(5);
        for (int being = 0; being < 5; being++) {
            Check.due("about(" + being + ", 7), all outside", x.about(being, 7), 31 - (1 << being));
        }
        SwallowedInTurn chain = Check.chain(5);
        Check.due("about(0, 7), one hears but the next", chain.about(0, 7), 0b00010);
        Check.due("about(4, 7), one hears but the next", chain.about(4, 7), 0b01000);
    }

    // ---- promise 8

    private static void asItsOwnNumber() {
        Check.sentence("8 as: its own number, not that of the KIND");
        SwallowedInTurn x = Check.beings(PIKE, 1, 0, 0, PIKE, 1, 0, 0, PIKE, 1, 0, 0, PIKE, 1, 0, 0, PIKE, 1, 0, 0);
        int[] kinds = {BEING, BEAST, FISH, PIKE};
        for (int being = 0; being < 5; being++) {
            for (int kind : kinds) {
                Check.due("as(" + being + ", " + kind + ")", x.as(being, kind), being);
            }
        }
    }

    private static void asNoneSuch() {
        Check.sentence("8 as: NONE: it is none such (the cast fails)");
        SwallowedInTurn x = Check.beings(BEING, 1, 0, 31, FISH, 1, 0, 31, WOLF, 1, 0, 31, PIKE, 1, 0, 31);
        Check.refused(x, "as(0, 1), a being as a beast", () -> x.as(0, BEAST), NONE);
        Check.refused(x, "as(1, 4), a fish as a pike", () -> x.as(1, PIKE), NONE);
        Check.refused(x, "as(2, 2), a wolf as a fish", () -> x.as(2, FISH), NONE);
        Check.refused(x, "as(3, 3), a pike as a wolf", () -> x.as(3, WOLF), NONE);
    }

    private static void asUnknown() {
        Check.sentence("8 as: UNKNOWN");
        for (int total = 0; total <= 5; total++) {
            SwallowedInTurn x = Check.beasts(total);
            if (total > 0) {
                Check.due("as of the last of " + total, x.as(total - 1, BEAST), total - 1);
            }
            for (int being : Check.around(-1, total)) {
                Check.refused(x, "as(" + being + ", 0) of " + total, () -> x.as(being, BEING), UNKNOWN);
            }
        }
    }

    private static void asOutside() {
        Check.sentence("8 as: OUTSIDE (a KIND: 0 to 4)");
        SwallowedInTurn x = Check.beings(PIKE, 1, 0, 0);
        Check.due("as(0, 0)", x.as(0, 0), 0);
        Check.due("as(0, 4)", x.as(0, 4), 0);
        for (int kind : Check.around(-1, 5)) {
            Check.refused(x, "as(0, " + kind + ")", () -> x.as(0, kind), OUTSIDE);
        }
        // A shift by 32 is one by 0.
        Check.refused(x, "as(0, 32)", () -> x.as(0, 32), OUTSIDE);
    }

    private static void asUnknownAheadOfOutside() {
        Check.sentence("8 as: UNKNOWN; OUTSIDE: of several the first");
        SwallowedInTurn x = Check.beasts(3);
        Check.refused(x, "as(3, 5)", () -> x.as(3, 5), UNKNOWN);
        Check.refused(x, "as(-1, -1)", () -> x.as(-1, -1), UNKNOWN);
        Check.refused(x, "as(MAX, MIN)", () -> x.as(Integer.MAX_VALUE, Integer.MIN_VALUE), UNKNOWN);
    }

    // ---- promises 9 and 10

    private static boolean isDeed(int deed) {
        return deed >= 0 && deed <= 24 || deed >= 30 && deed <= 34 || deed >= 40 && deed <= 44;
    }

    private static void mayUnknownNoDeed() {
        Check.sentence("9 may: UNKNOWN: it is no DEED (0 to 24, 30 to 34, 40 to 44)");
        SwallowedInTurn x = Check.beasts(5);
        for (int deed = -12; deed <= 60; deed++) {
            if (isDeed(deed)) {
                Check.due("may(" + deed + ") is known", x.may(deed) >= 0 ? 1 : 0, 1);
            } else {
                Check.due("may(" + deed + ")", x.may(deed), UNKNOWN);
            }
        }
        for (int deed : Check.around(-1, 25)) {
            Check.refused(x, "may(" + deed + ")", () -> x.may(deed), UNKNOWN);
        }
    }

    /** Whether all that a deed names are among so many beings. */
    private static boolean areThere(int deed, int total) {
        return deed <= 24 ? deed / 5 < total && deed % 5 < total : deed % 10 < total;
    }

    private static void mayUnknownNotThere() {
        Check.sentence("9 may: UNKNOWN: .. or a being is not there");
        for (int total = 0; total <= 5; total++) {
            SwallowedInTurn x = Check.beasts(total);
            for (int deed = 0; deed <= 44; deed++) {
                if (isDeed(deed)) {
                    int due = !areThere(deed, total) ? UNKNOWN : deed <= 24 && deed / 5 != deed % 5 ? 1 : 0;
                    Check.due("may(" + deed + ") of " + total, x.may(deed), due);
                }
            }
        }
    }

    private static void mayOneOrZero() {
        Check.sentence("9 may: Whether a DEED MAY be (1, 0)");
        SwallowedInTurn x = Check.beasts(2);
        Check.due("may(1)", x.may(1), 1);
        Check.due("may(30)", x.may(30), 0);
        Check.due("number() after may", x.number(), 0);
        Check.does(x, 1);
        Check.due("may(1) then", x.may(1), 0);
        Check.due("may(30) then", x.may(30), 1);
        Check.due("may(40) then", x.may(40), 1);
    }

    private static void deedHowManyThereWere() {
        Check.sentence("10 deed: A DEED: how many there were");
        SwallowedInTurn x = Check.beasts(2);
        for (int done = 1; done <= 500; done += 2) {
            Check.due("deed(1)", x.deed(1), done);
            Check.due("deed(30)", x.deed(30), done + 1);
        }
        Check.due("count(2)", x.count(2), 500);
    }

    private static void deedUnknownAsMay() {
        Check.sentence("10 deed: UNKNOWN, as may()");
        for (int total = 0; total <= 5; total++) {
            for (int deed = -3; deed <= 47; deed++) {
                if (!isDeed(deed) || !areThere(deed, total)) {
                    SwallowedInTurn x = Check.beasts(total);
                    int unknown = deed;
                    Check.refused(x, "deed(" + deed + ") of " + total, () -> x.deed(unknown), UNKNOWN);
                }
            }
        }
        for (int deed : Check.around(-1, 25)) {
            SwallowedInTurn x = Check.beasts(5);
            Check.refused(x, "deed(" + deed + ") of 5", () -> x.deed(deed), UNKNOWN);
        }
    }

    private static void deedState() {
        Check.sentence("10 deed: STATE: it MAY not be");
        int[] none = {0, 6, 12, 18, 24, 30, 31, 32, 33, 34, 40, 41, 42, 43, 44};
        for (int deed : none) {
            SwallowedInTurn x = Check.beasts(5);
            Check.refused(x, "deed(" + deed + ") of five outside", () -> x.deed(deed), STATE);
        }
        SwallowedInTurn x = Check.beasts(3);
        Check.does(x, 1);
        Check.refused(x, "deed(1) again", () -> x.deed(1), STATE);
        Check.refused(x, "deed(5), it is in it", () -> x.deed(5), STATE);
        Check.due("a refused one is not counted: deed(2)", x.deed(2), 2);
    }

    // ---- promise 11

    private static void numberOfAllOutside() {
        Check.sentence("11 number: for each BEING 0, if it is OUTSIDE");
        for (int total = 0; total <= 5; total++) {
            Check.due("number() of " + total, Check.beasts(total).number(), 0);
        }
    }

    private static void numberByFigures() {
        Check.sentence("11 number: 1 and the number of that right IN which it is: as figures of six, BEING 0 the lowest");
        int[] worth = {1, 6, 36, 216, 1296};
        for (int a = 0; a < 5; a++) {
            for (int b = 0; b < 5; b++) {
                if (a != b) {
                    SwallowedInTurn x = Check.beasts(5);
                    Check.does(x, 5 * a + b);
                    Check.due("number() when " + b + " is in " + a, x.number(), (a + 1) * worth[b]);
                }
            }
        }
    }

    private static void numberIsGreatest() {
        Check.sentence("11 number: NUMBER of the NESTING now, as great as it can be");
        Check.due("number() of a chain", Check.chain(5).number(), 1 * 6 + 2 * 36 + 3 * 216 + 4 * 1296);
        SwallowedInTurn x = Check.beasts(5);
        Check.does(x, 20, 21, 22, 23);
        Check.due("number() when all are in 4", x.number(), 5 + 5 * 6 + 5 * 36 + 5 * 216);
    }
}
