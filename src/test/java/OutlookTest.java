import java.util.ArrayList;
import java.util.List;

/** Promises 12 to 16: what would be, by deeds that may be. */
public final class OutlookTest {
    private static final int BEING = 0, BEAST = 1, FISH = 2;

    public static void main(String[] args) {
        soonestCountsDeeds();
        soonestTakesTheLeastFirstDeed();
        soonestFindsTheLeastOfLikeRows();
        soonestIsRefused();
        togetherCountsDeeds();
        togetherIsRefused();
        deepCountsWalls();
        allNestingsOfBeastsCome();
        nestingsAreThoseThatCanCome();
        theyComeFromNowOn();
        Check.end();
    }

    /** 1 in 0, 2 in 1, and so on. */
    private static SwallowedInTurn chain(int total) {
        SwallowedInTurn x = Check.beasts(total);
        for (int outer = total - 2; outer >= 0; outer--) {
            x.deed(5 * outer + outer + 1);
        }
        return x;
    }

    private static void soonestIs(SwallowedInTurn x, int set, int steps, int first) {
        Check.due("soonest(" + set + ", 0) at " + x.number(), x.soonest(set, 0), steps);
        Check.due("soonest(" + set + ", 1) at " + x.number(), x.soonest(set, 1), first);
    }

    private static void soonestCountsDeeds() {
        SwallowedInTurn x = chain(3);
        soonestIs(x, 0b000, 0, -1);
        soonestIs(x, 0b001, 0, -1);
        soonestIs(x, 0b010, 1, 30);
        soonestIs(x, 0b100, 2, 30);
        soonestIs(x, 0b111, 2, 30);
        x = chain(5);
        soonestIs(x, 0b11111, 4, 30);
        soonestIs(x, 0b10000, 4, 30);
        soonestIs(x, 0b00011, 1, 30);
        x.deed(30);
        soonestIs(x, 0b11111, 3, 31);
        Check.due("number after soonest", x.number(), 2 * 36 + 3 * 216 + 4 * 1296);
        Check.due("deeds after soonest", x.count(2), 5);
        SwallowedInTurn none = new SwallowedInTurn();
        soonestIs(none, 0, 0, -1);
    }

    private static void soonestTakesTheLeastFirstDeed() {
        SwallowedInTurn x = new SwallowedInTurn();
        x.being(FISH, 1, 20, 31);
        x.being(BEAST, 1, 20, 31);
        x.being(BEAST, 1, 20, 31);
        x.deed(1);
        x.deed(2);
        // 1 comes out by two coughs, too, but swallowing 2 first is of a lesser number.
        soonestIs(x, 0b010, 2, 7);
        soonestIs(x, 0b100, 1, 30);
        soonestIs(x, 0b110, 2, 30);
        SwallowedInTurn first = Check.beasts(2);
        first.deed(5);
        soonestIs(first, 0b01, 1, 31);
        soonestIs(first, 0b11, 1, 31);
        SwallowedInTurn yawner = Check.beasts(4);
        yawner.deed(17);
        yawner.deed(16);
        yawner.deed(15);
        // 0, 1 and 2 are in 3: a yawn lets all out at once.
        soonestIs(yawner, 0b1111, 1, 43);
        soonestIs(yawner, 0b0100, 1, 33);
        soonestIs(yawner, 0b0011, 1, 43);
    }

    private static void soonestFindsTheLeastOfLikeRows() {
        // The same nesting comes by rows that begin otherwise: the least first deed counts.
        SwallowedInTurn x = new SwallowedInTurn();
        x.being(FISH, 1, 20, 31);
        x.being(BEAST, 1, 20, 31);
        x.being(FISH, 1, 20, 31);
        x.being(BEAST, 1, 20, 31);
        x.being(BEING, 1, 0, 0);
        x.deed(13);
        x.deed(9);
        x.deed(1);
        x.deed(2);
        // All are out by four coughs, or when 1 has swallowed 2, comes out, yawns, and 2 coughs.
        soonestIs(x, 0b11111, 4, 7);
        soonestIs(x, 0b00010, 2, 7);
        // 1 coughs 4 into 0, that coughs it out, as the one of the greatest number there.
        soonestIs(x, 0b10000, 2, 31);
        soonestIs(x, 0b01000, 2, 30);
    }

    private static void soonestIsRefused() {
        SwallowedInTurn x = chain(3);
        int[][] wrong = {{-1, 0}, {8, 0}, {31, 1}, {1, -1}, {1, 2}, {Integer.MIN_VALUE, 0}, {0, Integer.MAX_VALUE}};
        for (int[] w : wrong) {
            Check.due("soonest(" + w[0] + ", " + w[1] + ")", x.soonest(w[0], w[1]), SwallowedInTurn.OUTSIDE);
        }
        Check.due("soonest(31, 0) of five", Check.beasts(5).soonest(31, 0), 0);
        Check.due("soonest(32, 0) of five", Check.beasts(5).soonest(32, 0), SwallowedInTurn.OUTSIDE);
        Check.due("soonest(1, 0) of none", new SwallowedInTurn().soonest(1, 0), SwallowedInTurn.OUTSIDE);
    }

    private static void togetherCountsDeeds() {
        SwallowedInTurn x = chain(4);
        Check.due("together(0, 1)", x.together(0, 1), 1);
        Check.due("together(1, 0)", x.together(1, 0), 1);
        Check.due("together(1, 2)", x.together(1, 2), 1);
        Check.due("together(0, 2)", x.together(0, 2), 2);
        Check.due("together(0, 3)", x.together(0, 3), 3);
        Check.due("together(1, 3)", x.together(1, 3), 2);
        SwallowedInTurn y = Check.beasts(4);
        y.deed(2);
        y.deed(3);
        Check.due("together of two in the same", y.together(2, 3), 0);
        Check.due("together of two outside", y.together(0, 1), 0);
        Check.due("together by a swallow or a cough", y.together(1, 2), 1);
    }

    private static void togetherIsRefused() {
        SwallowedInTurn x = chain(3);
        int[][] wrong = {{0, 0}, {2, 2}, {0, 3}, {3, 0}, {-1, 0}, {0, -1}, {-1, -1}, {4, 4},
            {Integer.MIN_VALUE, 1}, {1, Integer.MAX_VALUE}};
        for (int[] w : wrong) {
            Check.due("together(" + w[0] + ", " + w[1] + ")", x.together(w[0], w[1]), SwallowedInTurn.UNKNOWN);
        }
    }

    private static void deepCountsWalls() {
        for (int total = 1; total <= 5; total++) {
            SwallowedInTurn x = Check.beasts(total);
            for (int being = 0; being < total; being++) {
                Check.due("deep(" + being + ") of " + total, x.deep(being), total - 1);
            }
            Check.due("deep(" + total + ") of " + total, x.deep(total), SwallowedInTurn.UNKNOWN);
        }
        SwallowedInTurn x = new SwallowedInTurn();
        x.being(BEAST, 9, 20, 1 << BEAST);
        x.being(BEAST, 5, 20, 1 << BEING);
        x.being(BEING, 1, 0, 0);
        Check.due("deep of who is never swallowed", x.deep(0), 0);
        Check.due("deep of who is swallowed by one", x.deep(1), 1);
        Check.due("deep of who can be in two", x.deep(2), 2);
        x.deed(11);
        x.deed(7);
        x.deed(1);
        Check.due("deep when it is as deep now", x.deep(2), 2);
        Check.due("deep(-1)", x.deep(-1), SwallowedInTurn.UNKNOWN);
        Check.due("deep(3)", x.deep(3), SwallowedInTurn.UNKNOWN);
        Check.due("deep(MAX)", x.deep(Integer.MAX_VALUE), SwallowedInTurn.UNKNOWN);
    }

    private static void allNestingsOfBeastsCome() {
        for (int total = 0; total <= 5; total++) {
            List<Integer> due = numbersWithoutRings(total);
            SwallowedInTurn x = Check.beasts(total);
            Check.due("many() of " + total, x.many(), due.size());
            // All nestings are asked for of few beings, some of five: an object has but 512 calls.
            int step = total < 5 ? 1 : 7;
            for (int i = 0; i < due.size(); i += step) {
                Check.due("nesting(" + i + ") of " + total, x.nesting(i), due.get(i));
            }
            Check.due("the last nesting of " + total, x.nesting(due.size() - 1), due.get(due.size() - 1));
            Check.due("one more nesting of " + total, x.nesting(due.size()), SwallowedInTurn.OUTSIDE);
            Check.due("nesting(-1) of " + total, x.nesting(-1), SwallowedInTurn.OUTSIDE);
        }
    }

    private static List<Integer> numbersWithoutRings(int total) {
        List<Integer> numbers = new ArrayList<>();
        int end = (int) Math.pow(6, total);
        for (int number = 0; number < end; number++) {
            if (isWithoutRings(number, total)) {
                numbers.add(number);
            }
        }
        return numbers;
    }

    private static boolean isWithoutRings(int number, int total) {
        int[] figures = new int[total];
        int rest = number;
        for (int i = 0; i < total; i++) {
            figures[i] = rest % 6;
            rest /= 6;
            if (figures[i] > total) {
                return false;
            }
        }
        for (int being = 0; being < total; being++) {
            int at = being;
            int walls = 0;
            while (figures[at] != 0) {
                at = figures[at] - 1;
                if (++walls > total) {
                    return false;
                }
            }
        }
        return true;
    }

    private static void nestingsAreThoseThatCanCome() {
        SwallowedInTurn x = new SwallowedInTurn();
        x.being(BEAST, 9, 5, 1 << BEING);
        x.being(BEING, 3, 0, 0);
        x.being(BEING, 2, 0, 0);
        x.being(BEING, 4, 0, 0);
        int[] due = {0, 6, 36, 42, 216};
        Check.due("many()", x.many(), due.length);
        for (int i = 0; i < due.length; i++) {
            Check.due("nesting(" + i + ")", x.nesting(i), due[i]);
        }
        Check.due("nesting(5)", x.nesting(5), SwallowedInTurn.OUTSIDE);
        Check.due("nesting(MIN)", x.nesting(Integer.MIN_VALUE), SwallowedInTurn.OUTSIDE);
        Check.due("nesting(MAX)", x.nesting(Integer.MAX_VALUE), SwallowedInTurn.OUTSIDE);
        Check.due("nesting(2) as the first call", Check.beasts(2).nesting(2), 6);
        SwallowedInTurn alone = new SwallowedInTurn();
        alone.being(BEAST, 1, 20, 31);
        Check.due("many() of one", alone.many(), 1);
        Check.due("nesting(0) of one", alone.nesting(0), 0);
        Check.due("nesting(1) of one", alone.nesting(1), SwallowedInTurn.OUTSIDE);
    }

    private static void theyComeFromNowOn() {
        SwallowedInTurn x = new SwallowedInTurn();
        x.being(BEAST, 1, 9, 31);
        Check.due("many() with one", x.many(), 1);
        x.being(BEING, 2, 0, 0);
        Check.due("many() with one more", x.many(), 2);
        x.being(BEING, 2, 0, 0);
        Check.due("many() with two more", x.many(), 4);
        x.deed(1);
        Check.due("many() after a deed", x.many(), 4);
        Check.due("deeds that may be after a deed", x.count(5), 3);
        x.deed(30);
        Check.due("soonest after deeds", x.soonest(7, 0), 0);
        x.deed(2);
        Check.due("soonest after another deed", x.soonest(7, 0), 1);
        Check.due("number after all that", x.number(), 36);
    }
}
