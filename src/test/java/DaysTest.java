/** Promise 22: days by a seed. */
public final class DaysTest {
    public static void main(String[] args) {
        theSeedGoesOn();
        daysDoDeedsAsDrawn();
        daysEndWhenThereIsNoDeed();
        daysChangeNothing();
        daysAreRefused();
        Check.end();
    }

    private static long next(long seed) {
        return (1103515245L * seed + 12345L) % (1L << 31);
    }

    private static void theSeedGoesOn() {
        SwallowedInTurn x = Check.beasts(3);
        Check.due("one draw from 0", x.days(1, 0, 2), 12345);
        Check.due("one draw from 1", x.days(1, 1, 2), 1103527590);
        Check.due("one draw from MAX", x.days(1, Integer.MAX_VALUE, 2), next(Integer.MAX_VALUE));
        long seed = 77;
        for (int deeds = 1; deeds <= 60; deeds++) {
            seed = next(seed);
            Check.due("seed after " + deeds, x.days(deeds, 77, 2), seed);
            Check.due("deeds of " + deeds, x.days(deeds, 77, 1), deeds);
        }
    }

    /** Lives the same days by deeds that it chooses by may(). */
    private static void daysDoDeedsAsDrawn() {
        int[] seeds = {0, 1, 2, 65536, 123456789, Integer.MAX_VALUE};
        for (int seed : seeds) {
            for (int total = 2; total <= 5; total++) {
                SwallowedInTurn x = mixed(total);
                SwallowedInTurn lived = mixed(total);
                long drawn = seed;
                for (int deeds = 1; deeds <= 9; deeds++) {
                    drawn = next(drawn);
                    int choices = lived.count(5);
                    lived.deed(allowed(lived, (int) (drawn / 65536 % choices)));
                    Check.due("days(" + deeds + ", " + seed + ", 0) of " + total,
                            x.days(deeds, seed, 0), lived.number());
                }
            }
        }
    }

    private static SwallowedInTurn mixed(int total) {
        SwallowedInTurn x = new SwallowedInTurn();
        int[] kinds = {3, 4, 1, 2, 0};
        for (int i = 0; i < total; i++) {
            x.being(kinds[i], 1 + i, 12 - i, 31);
        }
        return x;
    }

    private static int allowed(SwallowedInTurn x, int place) {
        int left = place;
        for (int deed = 0; deed < 45; deed++) {
            if (x.may(deed) == 1 && left-- == 0) {
                return deed;
            }
        }
        return -1;
    }

    private static void daysEndWhenThereIsNoDeed() {
        SwallowedInTurn[] still = {new SwallowedInTurn(), Check.beasts(1)};
        for (SwallowedInTurn x : still) {
            Check.due("number where nothing may be", x.days(60, 7, 0), 0);
            Check.due("deeds where nothing may be", x.days(60, 7, 1), 0);
            Check.due("seed where nothing may be", x.days(60, 7, 2), 7);
        }
    }

    private static void daysChangeNothing() {
        SwallowedInTurn x = Check.beasts(4);
        x.deed(7);
        Check.due("days from there", x.days(60, 5, 1), 60);
        Check.due("number after days", x.number(), 2 * 36);
        Check.due("deeds after days", x.count(2), 1);
        Check.due("the same days again", x.days(20, 5, 0), x.days(20, 5, 0));
    }

    private static void daysAreRefused() {
        SwallowedInTurn x = Check.beasts(2);
        int[][] wrong = {{0, 1, 0}, {61, 1, 0}, {-1, 1, 0}, {1, -1, 0}, {1, Integer.MIN_VALUE, 0}, {1, 1, -1},
            {1, 1, 3}, {Integer.MAX_VALUE, 1, 1}, {Integer.MIN_VALUE, 1, 2}, {1, 1, Integer.MAX_VALUE}};
        for (int[] w : wrong) {
            Check.due("days(" + w[0] + ", " + w[1] + ", " + w[2] + ")",
                    x.days(w[0], w[1], w[2]), SwallowedInTurn.OUTSIDE);
        }
        Check.due("days(60, 0, 1)", x.days(60, 0, 1), 60);
        Check.due("days(1, 0, 1)", x.days(1, 0, 1), 1);
    }
}
