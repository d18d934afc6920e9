/** The boundary cases of what would be ("2 NESTINGS", promises 12 to 16); each method tests one sentence. */
public final class OutlookEdgeTest {
    private static final int NONE = -1, UNKNOWN = -101, OUTSIDE = -102;
    private static final int BEING = 0, BEAST = 1, FISH = 2, WOLF = 3;

    public static void main(String[] args) {
        asItIsNowToo();
        fromNowOn();
        soonestByNoDeed();
        soonestByMostDeeds();
        soonestFirstIsTheLeast();
        soonestFirstBeginsSuchARow();
        soonestNoneItIsSo();
        soonestOfNobody();
        soonestCanAlwaysBe();
        soonestOutsideSet();
        soonestOutsideWhat();
        togetherByNoDeed();
        togetherByMostDeeds();
        togetherCanAlwaysBe();
        togetherUnknown();
        togetherUnknownTheSame();
        deepNone();
        deepMost();
        deepUnknown();
        manyOfNoneAndOfFive();
        manyAsItIsNow();
        nestingByNumber();
        nestingOutside();
        nestingOfNone();
        Check.end();
    }

    private static void soonestIs(String what, SwallowedInTurn x, int set, int few, int first) {
        Check.due("soonest(" + set + ", 0), " + what, x.soonest(set, 0), few);
        Check.due("soonest(" + set + ", 1), " + what, x.soonest(set, 1), first);
    }

    // ---- 2 NESTINGS

    private static void asItIsNowToo() {
        Check.sentence("Terms 2: THEY COME .. by DEEDS that MAY be (as it is now, too)");
        SwallowedInTurn still = Check.beings(BEAST, 1, 20, 0, BEING, 1, 20, 31);
        Check.due("many() where no deed may be", still.many(), 1);
        Check.due("nesting(0) where no deed may be", still.nesting(0), 0);
        SwallowedInTurn x = Check.chain(3);
        int found = 0;
        for (int i = 0; i < x.many(); i++) {
            found += x.nesting(i) == x.number() ? 1 : 0;
        }
        Check.due("how often the nesting now is among them", found, 1);
    }

    private static void fromNowOn() {
        Check.sentence("Terms 2: THEY COME from now on");
        SwallowedInTurn x = Check.beasts(2);
        Check.due("many() of two", x.many(), 3);
        soonestIs("of two outside", x, 3, 0, NONE);
        Check.does(x, 5);
        soonestIs("when 0 is in 1", x, 3, 1, 31);
        x.being(BEING, 1, 0, 0);
        Check.due("many() when a third came", x.many(), 9);
        soonestIs("when a third came", x, 7, 1, 31);
        Check.does(x, 31);
        soonestIs("when 0 is out", x, 7, 0, NONE);
    }

    // ---- promise 12

    private static void soonestByNoDeed() {
        Check.sentence("12 soonest: how few (none)");
        for (int total = 1; total <= 5; total++) {
            SwallowedInTurn x = Check.beasts(total);
            soonestIs("all of " + total + " outside", x, (1 << total) - 1, 0, NONE);
            soonestIs("the last of " + total + " outside", x, 1 << total - 1, 0, NONE);
        }
        soonestIs("the outermost of a chain", Check.chain(5), 1, 0, NONE);
    }

    private static void soonestByMostDeeds() {
        Check.sentence("12 soonest: by how few DEEDS all of these are OUTSIDE");
        SwallowedInTurn x = Check.chain(5);
        for (int being = 1; being < 5; being++) {
            soonestIs("the one behind " + being + " walls", x, 1 << being, being, 30);
            soonestIs("all up to it", x, (2 << being) - 1, being, 30);
        }
        soonestIs("the first and the last", x, 0b10001, 4, 30);
        // Fishes can't yawn: each of four comes out by itself.
        SwallowedInTurn fish = Check.beings(FISH, 1, 20, 31, BEING, 1, 0, 0, BEING, 1, 0, 0, BEING, 1, 0, 0,
                BEING, 1, 0, 0);
        Check.does(fish, 1, 2, 3, 4);
        soonestIs("four in a fish", fish, 31, 4, 30);
        soonestIs("the least of four in a fish", fish, 2, 4, 30);
        soonestIs("the greatest of four in a fish", fish, 16, 1, 30);
    }

    private static void soonestFirstIsTheLeast() {
        Check.sentence("12 soonest: 1 the first: of all that begin such a row the least");
        SwallowedInTurn x = Check.beasts(4);
        Check.does(x, 2, 8);
        // 2 in 0, 3 in 1: a cough or a yawn of both, in any order.
        soonestIs("2 in 0, 3 in 1", x, 0b1100, 2, 30);
        soonestIs("3 in 1", x, 0b1000, 1, 31);
        SwallowedInTurn wolf = Check.beings(BEING, 1, 0, 0, BEING, 1, 0, 0, WOLF, 1, 20, 31);
        Check.does(wolf, 10, 11);
        soonestIs("two in a wolf, by a cough or a yawn", wolf, 3, 1, 32);
        SwallowedInTurn three = Check.beasts(4);
        Check.does(three, 1, 2, 3);
        soonestIs("three in one, by a yawn alone", three, 15, 1, 40);
        // 2 comes out ahead of 1, when 1 has swallowed it, too: deed 7 is less than 30.
        SwallowedInTurn fish = Check.beings(FISH, 1, 20, 31, BEAST, 1, 20, 31, BEAST, 1, 20, 31);
        Check.does(fish, 1, 2);
        soonestIs("1 and 2 in a fish, 1 out", fish, 2, 2, 7);
        soonestIs("1 and 2 in a fish, both out", fish, 6, 2, 30);
    }

    private static void soonestFirstBeginsSuchARow() {
        Check.sentence("12 soonest: .. that begin such a row (one of so few)");
        // Deed 1 may be, and is the least of all, but with it the row has a deed more.
        SwallowedInTurn x = Check.beasts(4);
        Check.does(x, 13);
        Check.due("may(1)", x.may(1), 1);
        soonestIs("3 in 2", x, 0b1000, 1, 32);
        Check.does(x, 1);
        soonestIs("1 in 0, 3 in 2", x, 0b1010, 2, 30);
    }

    private static void soonestNoneItIsSo() {
        Check.sentence("12 soonest: 1 the first (NONE: it is so)");
        SwallowedInTurn x = Check.chain(3);
        soonestIs("of 0, outside", x, 0b001, 0, NONE);
        soonestIs("of 1, in 0", x, 0b010, 1, 30);
        Check.does(x, 30);
        soonestIs("of 1, outside", x, 0b011, 0, NONE);
        soonestIs("of 2, in 1", x, 0b111, 1, 31);
    }

    private static void soonestOfNobody() {
        Check.sentence("12 soonest: a set of BEINGS (empty)");
        for (int total = 0; total <= 5; total++) {
            soonestIs("of nobody", Check.beasts(total), 0, 0, NONE);
        }
        soonestIs("of nobody in a chain", Check.chain(5), 0, 0, NONE);
    }

    /** 2 and 3 are in the wolf: they can't come out into the fish, that must cough first. */
    private static SwallowedInTurn wolfInAFullFish() {
        SwallowedInTurn x = Check.beings(FISH, 9, 9, 1 << WOLF, WOLF, 9, 20, 1 << BEING, BEING, 9, 0, 0,
                BEING, 9, 0, 0);
        Check.does(x, 7, 8, 1);
        return x;
    }

    private static void soonestCanAlwaysBe() {
        Check.sentence("12 soonest: NONE: it can't be (it always can: OUTSIDE no ROOM is asked)");
        SwallowedInTurn x = wolfInAFullFish();
        Check.due("may(31) into a full one", x.may(31), 0);
        soonestIs("two in a wolf in a full fish", x, 0b1100, 2, 30);
        soonestIs("the wolf in a full fish", x, 0b0010, 1, 30);
        for (int total = 1; total <= 5; total++) {
            soonestIs("all of a chain", Check.chain(total), (1 << total) - 1, total - 1, total == 1 ? NONE : 30);
        }
    }

    private static void soonestOutsideSet() {
        Check.sentence("12 soonest: OUTSIDE: set (bits of BEINGS)");
        for (int total = 0; total <= 5; total++) {
            SwallowedInTurn x = Check.beasts(total);
            Check.due("soonest of all " + total, x.soonest((1 << total) - 1, 0), 0);
            for (int set : Check.around(-1, 1 << total)) {
                Check.refused(x, "soonest(" + set + ", 0) of " + total, () -> x.soonest(set, 0), OUTSIDE);
                Check.due("soonest(" + set + ", 1) of " + total, x.soonest(set, 1), OUTSIDE);
            }
        }
        SwallowedInTurn x = Check.chain(3);
        Check.refused(x, "soonest(9, 1), one of two is there", () -> x.soonest(9, 1), OUTSIDE);
        Check.refused(x, "soonest(-8, 0)", () -> x.soonest(-8, 0), OUTSIDE);
    }

    private static void soonestOutsideWhat() {
        Check.sentence("12 soonest: OUTSIDE: .. what (0, 1)");
        SwallowedInTurn x = Check.chain(3);
        for (int what : Check.around(-1, 2)) {
            Check.refused(x, "soonest(7, " + what + ")", () -> x.soonest(7, what), OUTSIDE);
            Check.due("soonest(8, " + what + ")", x.soonest(8, what), OUTSIDE);
        }
    }

    // ---- promise 13

    private static void togetherByNoDeed() {
        Check.sentence("13 together: by how few they are right IN the same one (or both OUTSIDE) (none)");
        SwallowedInTurn x = Check.beasts(5);
        Check.due("together(0, 4), both outside", x.together(0, 4), 0);
        Check.does(x, 3, 4);
        Check.due("together(3, 4), both right in 0", x.together(3, 4), 0);
        Check.due("together(4, 3)", x.together(4, 3), 0);
        Check.due("together(1, 2), both outside", x.together(1, 2), 0);
        Check.due("together(0, 3), one right in the other", x.together(0, 3), 1);
        Check.due("together(3, 1), by a swallow or a cough", x.together(3, 1), 1);
    }

    private static void togetherByMostDeeds() {
        Check.sentence("13 together: by how few they are right IN the same one");
        SwallowedInTurn x = Check.chain(5);
        for (int being = 1; being < 5; being++) {
            Check.due("together(0, " + being + ") of a chain", x.together(0, being), being);
            Check.due("together(" + being + ", 0) of a chain", x.together(being, 0), being);
        }
        Check.due("together(3, 4) of a chain", x.together(3, 4), 1);
        // No one likes anyone but 0, that has 1 in it: 1 must be out, and then 2, too.
        SwallowedInTurn two = Check.beings(FISH, 1, 20, 31, FISH, 1, 20, 1, BEING, 1, 0, 0);
        Check.does(two, 7, 1);
        Check.due("together(0, 2), in 1 in 0", two.together(0, 2), 2);
        Check.due("together(1, 2), in 1 in 0", two.together(1, 2), 1);
    }

    private static void togetherCanAlwaysBe() {
        Check.sentence("13 together: NONE: it can't be (it always can: OUTSIDE)");
        SwallowedInTurn x = wolfInAFullFish();
        int[][] due = {{0, 1, 1}, {0, 2, 2}, {0, 3, 2}, {1, 2, 2}, {1, 3, 2}, {2, 3, 0}};
        for (int[] d : due) {
            Check.due("together(" + d[0] + ", " + d[1] + ")", x.together(d[0], d[1]), d[2]);
        }
        SwallowedInTurn still = Check.beings(BEING, 1, 0, 0, BEING, 1, 0, 0);
        Check.due("together(0, 1) where no deed may be", still.together(0, 1), 0);
    }

    private static void togetherUnknown() {
        Check.sentence("13 together: UNKNOWN: a, b");
        for (int total = 0; total <= 5; total++) {
            SwallowedInTurn x = Check.beasts(total);
            for (int wrong : Check.around(-1, total)) {
                Check.refused(x, "together(0, " + wrong + ") of " + total, () -> x.together(0, wrong), UNKNOWN);
                Check.due("together(" + wrong + ", 0) of " + total, x.together(wrong, 0), UNKNOWN);
            }
        }
        SwallowedInTurn x = Check.beasts(5);
        Check.due("together(3, 4) of 5", x.together(3, 4), 0);
        Check.due("together(4, 3) of 5", x.together(4, 3), 0);
    }

    private static void togetherUnknownTheSame() {
        Check.sentence("13 together: UNKNOWN: .. or they are the same");
        SwallowedInTurn x = Check.chain(5);
        for (int being = 0; being < 5; being++) {
            int same = being;
            Check.refused(x, "together(" + being + ", " + being + ")", () -> x.together(same, same), UNKNOWN);
        }
        Check.refused(x, "together(5, 5)", () -> x.together(5, 5), UNKNOWN);
    }

    // ---- promise 14

    private static void deepNone() {
        Check.sentence("14 deep: the most walls that it can have around it (none)");
        Check.due("deep(0), alone", Check.beasts(1).deep(0), 0);
        SwallowedInTurn x = Check.beings(BEAST, 1, 20, 1, BEING, 1, 0, 0);
        Check.due("deep(0), whom nobody likes", x.deep(0), 0);
        Check.due("deep(1), whom one likes", x.deep(1), 1);
        Check.does(x, 1);
        Check.due("deep(0), with one in it", x.deep(0), 0);
        Check.due("deep(1), in it", x.deep(1), 1);
    }

    private static void deepMost() {
        Check.sentence("14 deep: the most walls .. in some of these NESTINGS");
        SwallowedInTurn out = Check.beasts(5);
        SwallowedInTurn chain = Check.chain(5);
        for (int being = 0; being < 5; being++) {
            Check.due("deep(" + being + ") of five outside", out.deep(being), 4);
            Check.due("deep(" + being + ") of a chain of five", chain.deep(being), 4);
        }
        // 1 has room for 2 alone, and 2 for nobody: 0 has both, but 2 is in 1 only.
        SwallowedInTurn x = Check.beings(BEAST, 1, 9, 31, BEAST, 2, 2, 31, BEING, 1, 0, 0);
        Check.due("deep(2)", x.deep(2), 2);
        Check.due("deep(1)", x.deep(1), 1);
        Check.due("number() after deep", x.number(), 0);
    }

    private static void deepUnknown() {
        Check.sentence("14 deep: UNKNOWN");
        for (int total = 0; total <= 5; total++) {
            SwallowedInTurn x = Check.beasts(total);
            if (total > 0) {
                Check.due("deep of the last of " + total, x.deep(total - 1), total - 1);
            }
            for (int being : Check.around(-1, total)) {
                Check.refused(x, "deep(" + being + ") of " + total, () -> x.deep(being), UNKNOWN);
            }
        }
    }

    // ---- promises 15 and 16

    private static void manyOfNoneAndOfFive() {
        Check.sentence("15 many: how many NESTINGS THEY COME to");
        int[] due = {1, 1, 3, 16, 125, 1296};
        for (int total = 0; total <= 5; total++) {
            Check.due("many() of " + total, Check.beasts(total).many(), due[total]);
            Check.due("many() of a chain of " + total, Check.chain(total).many(), due[total]);
        }
    }

    private static void manyAsItIsNow() {
        Check.sentence("15 many: .. (one: as it is now)");
        Check.due("many() of beings", Check.beings(BEING, 1, 20, 31, BEING, 1, 20, 31).many(), 1);
        Check.due("many() without room", Check.beings(BEAST, 1, 0, 31, BEAST, 1, 0, 31).many(), 1);
        Check.due("many() without liking", Check.beings(BEAST, 1, 9, 1, WOLF, 1, 9, 1).many(), 1);
    }

    private static void nestingByNumber() {
        Check.sentence("16 nesting: the so-manieth of them (from 0), by NUMBER");
        SwallowedInTurn x = Check.beasts(5);
        int[][] due = {{0, 0}, {1, 2}, {2, 3}, {3, 4}, {4, 5}, {5, 6}, {1295, 4 * 1296 + 3 * 216 + 2 * 36 + 6}};
        for (int[] d : due) {
            Check.due("nesting(" + d[0] + ") of five", x.nesting(d[0]), d[1]);
        }
        int[] three = {0, 2, 3, 6, 9, 18, 20, 21, 36, 38, 42, 54, 72, 74, 75, 78};
        SwallowedInTurn of = Check.chain(3);
        for (int i = 0; i < three.length; i++) {
            Check.due("nesting(" + i + ") of three", of.nesting(i), three[i]);
        }
        Check.due("number() after nesting", of.number(), 78);
    }

    private static void nestingOutside() {
        Check.sentence("16 nesting: OUTSIDE: i (below MANY)");
        int[] many = {1, 1, 3, 16, 125};
        int[] last = {0, 0, 6, 78, 3 * 216 + 78};
        for (int total = 0; total <= 4; total++) {
            SwallowedInTurn x = Check.beasts(total);
            Check.due("nesting(0) of " + total, x.nesting(0), 0);
            Check.due("nesting(" + (many[total] - 1) + ") of " + total, x.nesting(many[total] - 1), last[total]);
            for (int i : Check.around(-1, many[total])) {
                Check.refused(x, "nesting(" + i + ") of " + total, () -> x.nesting(i), OUTSIDE);
            }
        }
        SwallowedInTurn five = Check.beasts(5);
        int[] wrong = {-1, 1296, 7775, 7776, Integer.MIN_VALUE, Integer.MAX_VALUE};
        for (int i : wrong) {
            Check.refused(five, "nesting(" + i + ") of 5", () -> five.nesting(i), OUTSIDE);
        }
    }

    private static void nestingOfNone() {
        Check.sentence("16 nesting: (no BEINGS)");
        SwallowedInTurn x = new SwallowedInTurn();
        Check.due("nesting(0)", x.nesting(0), 0);
        Check.refused(x, "nesting(1)", () -> x.nesting(1), OUTSIDE);
        Check.refused(x, "nesting(-1)", () -> x.nesting(-1), OUTSIDE);
    }
}
